/-! THE REFERENCE'S LENGTHS, ITS HISTORY, ITS CHANGES -/
theorem nI_div2 {a : Nat} (ha : a < 2 ^ 31) : nI a / nI 2 = nI (a / 2) := by
  apply Int32.toInt_inj.mp
  rw [Jvm.Kit.i32_div (by rw [nI_toInt ha, nI_toInt (by decide)]; omega), nI_toInt ha, nI_toInt (by decide), nI_toInt (by omega), Int.tdiv_eq_ediv_of_nonneg (by omega)]
  omega
theorem len_2828 {f q R : Nat} (h1 : 1 ≤ f) (h6 : f ≤ 6) (hq : q < nk f) (hR : R ≤ 2000) : len f q R ≤ 2828 := by
  have h := (len_iff (x := len f q R) h1 h6 hq hR).mpr (Nat.le_refl _)
  simp only [rch, Bool.and_eq_true, decide_eq_true_eq] at h
  have r2 : 2 * R * R ≤ 8000000 := by
    have := Nat.mul_le_mul (Nat.mul_le_mul (Nat.le_refl 2) hR) hR
    omega
  rcases Nat.lt_or_ge 2828 (len f q R) with g | g
  · have := Nat.mul_le_mul (show 2829 ≤ len f q R by omega) (show 2829 ≤ len f q R by omega)
    omega
  · exact g
theorem sp_127 {f R : Nat} {A : Mem} {Q : Int32 → Mem → Prop} (h1 : 1 ≤ f) (h6 : f ≤ 6) (hK : MK f A) (hR : R ≤ 2000) (h : ∀ A2 : Mem, (∀ c, c ≠ 14 → A2 c = A c) → (∀ q, q < nk f → A2 14 q = nI (len f q R)) → Q 0 A2) : pm_P 127 0 [(0, .ref 0), (1, .int (nI R))] [] A Q := by
  have hb := bd_n h1 h6
  have r2 : 2 * R * R ≤ 8000000 := by
    have := Nat.mul_le_mul (Nat.mul_le_mul (Nat.le_refl 2) hR) hR
    omega
  have outer : ∀ q, q ≤ nk f → ∀ A1 : Mem, (∀ c, c ≠ 14 → A1 c = A c) → (∀ j, j < q → A1 14 j = nI (len f j R)) → pm_P 127 13 [(0, .ref 0), (1, .int (nI R)), (2, .long (lN (2 * R * R))), (4, .int (nI q))] [] A1 Q := by
    refine up_ind (fun q hq ih A1 g1 g2 => ?_)
    have e9 : A1 0 9 = nI (nk f) := by rw [g1 0 (by decide)]; exact hK.1
    by_cases hlt : q < nk f
    · obtain ⟨q1, q2, q3⟩ := bd_q h1 h6 hlt
      obtain ⟨x1, x2⟩ := hK.2.2 q hlt
      have x1 : A1 10 q = nI (qn f q * qn f q) := by rw [g1 10 (by decide)]; exact x1
      have x2 : A1 11 q = nI (qd f q) := by rw [g1 11 (by decide)]; exact x2
      have hqq : qn f q * qn f q ≤ 36 * 36 := Nat.mul_le_mul q1 q1
      have inner : ∀ n lo9 hi9, hi9 - lo9 ≤ n → lo9 ≤ len f q R → len f q R ≤ hi9 → hi9 ≤ 3000 → pm_P 127 30 [(0, .ref 0), (1, .int (nI R)), (2, .long (lN (2 * R * R))), (4, .int (nI q)), (5, .int (nI lo9)), (6, .int (nI hi9))] [] A1 Q := by
        intro n
        induction n with
        | zero =>
          intro lo9 hi9 hn hlo hhi h3
          refine pm_iload d127_30 rfl ?_
          refine pm_iload d127_32 rfl ?_
          first | refine pm_icmp_geN (tgt := 113) d127_34 rfl (by omega) (by omega) (fun c_34 => ?_) (fun c_34 => ?_) | refine pm_icmp_ge (tgt := 113) d127_34 rfl (fun c_34 => ?_) (fun c_34 => ?_)
          · refine pm_aload_n (i := 0) d127_113 rfl rfl ?_
            refine pm_getR d127_114 lf_11_50 rfl rfl ?_
            refine pm_iload d127_117 rfl ?_
            refine pm_iload d127_119 rfl ?_
            refine pm_iastN d127_121 rfl (by decide) (by omega) ?_
            first | refine pm_iincN 1 (L2 := [(0, _), (1, _), (2, _), (4, _), (5, _), (6, _)]) d127_122 rfl (by decide) rfl ?_ | refine pm_iinc (L2 := [(0, _), (1, _), (2, _), (4, _), (5, _), (6, _)]) d127_122 rfl rfl (by decide) rfl ?_
            refine pm_goto (tgt := 13) d127_125 rfl ?_
            refine pm_pick [0, 1, 2, 3] (L2 := [(0, _), (1, _), (2, _), (4, _)]) rfl ?_
            refine ih hlt _ (fun c hc => by rw [mset_other hc]; exact g1 c hc) (fun j hj => ?_)
            by_cases e : j = q
            · rw [e, mset_at, show lo9 = len f q R by omega]
            · rw [mset_ne e]; exact g2 j (by omega)
          · omega
        | succ n ihn =>
          intro lo9 hi9 hn hlo hhi h3
          by_cases hlt2 : lo9 < hi9
          · obtain ⟨m, hm⟩ : ∃ m, m = (lo9 + hi9 + 1) / 2 := ⟨_, rfl⟩
            have hm1 : lo9 < m ∧ m ≤ hi9 := by omega
            have hiff := len_iff (x := m) h1 h6 hlt hR
            have hmm : m * m ≤ 9000000 := by
              have := Nat.mul_le_mul (show m ≤ 3000 by omega) (show m ≤ 3000 by omega)
              omega
            have k103 : ¬ m ≤ len f q R → pm_P 127 103 [(0, .ref 0), (1, .int (nI R)), (2, .long (lN (2 * R * R))), (4, .int (nI q)), (5, .int (nI lo9)), (6, .int (nI hi9)), (7, .long (lN m)), (9, .long (lN (2 * R * R) - lN (m * m)))] [] A1 Q := by
              intro hno
              refine pm_lload d127_103 rfl ?_
              refine pm_l2i (v := nI m) d127_105 (lN_i m) ?_
              refine pm_iconst (v := nI 1) d127_106 (by decide) ?_
              first | refine pm_isubN d127_107 (by omega) ?_ | refine pm_isub d127_107 ?_
              refine pm_istore (L2 := [(0, _), (1, _), (2, _), (4, _), (5, _), (6, _), (7, _), (9, _)]) d127_108 (by decide) rfl ?_
              refine pm_goto (tgt := 30) d127_110 rfl ?_
              refine pm_pick [0, 1, 2, 3, 4, 5] (L2 := [(0, _), (1, _), (2, _), (4, _), (5, _), (6, _)]) rfl ?_
              exact ihn lo9 (m - 1) (by omega) hlo (by omega) (by omega)
            by_cases hle : m * m ≤ 2 * R * R
            · have rr : 2 * R * R - m * m ≤ 8000000 := by omega
              have bX : (2 * R * R - m * m) * (2 * R * R - m * m) * qd f q < 2 ^ 63 := by
                have := Nat.mul_le_mul (Nat.mul_le_mul rr rr) q2
                omega
              have bY : 2 * R * R * (2 * R * R) * (qn f q * qn f q) < 2 ^ 63 := by
                have := Nat.mul_le_mul (Nat.mul_le_mul r2 r2) hqq
                omega
              have hrc : rch f q R m = true ↔ 2 * R * R * (2 * R * R) * (qn f q * qn f q) ≤ (2 * R * R - m * m) * (2 * R * R - m * m) * qd f q := by
                simp only [rch, Bool.and_eq_true, decide_eq_true_eq]
                rw [show 2 * R * R * (2 * R * R) * (qn f q * qn f q) = 2 * R * R * (2 * R * R) * qn f q * qn f q from (Nat.mul_assoc _ _ _).symm]
                exact ⟨fun g => g.2, fun g => ⟨hle, g⟩⟩
              rw [lN_sub hle] at k103
              refine pm_iload d127_30 rfl ?_
              refine pm_iload d127_32 rfl ?_
              first | refine pm_icmp_geN (tgt := 113) d127_34 rfl (by omega) (by omega) (fun c_34 => ?_) (fun c_34 => ?_) | refine pm_icmp_ge (tgt := 113) d127_34 rfl (fun c_34 => ?_) (fun c_34 => ?_)
              · omega
              · refine pm_iload d127_37 rfl ?_
                refine pm_iload d127_39 rfl ?_
                first | refine pm_iaddN d127_41 ?_ | refine pm_iadd d127_41 ?_
                refine pm_iconst (v := nI 1) d127_42 (by decide) ?_
                first | refine pm_iaddN d127_43 ?_ | refine pm_iadd d127_43 ?_
                refine pm_iconst (v := nI 2) d127_44 (by decide) ?_
                refine pm_idiv d127_45 (by decide) ?_
                rw [nI_div2 (by omega), ← hm]
                first | refine pm_i2lN d127_46 (by omega) ?_ | refine pm_i2l d127_46 rfl ?_
                refine pm_lstore (L2 := [(0, _), (1, _), (2, _), (4, _), (5, _), (6, _), (7, _)]) d127_47 (by decide) rfl ?_
                refine pm_lload_n (i := 2) d127_49 rfl rfl ?_
                refine pm_lload d127_50 rfl ?_
                refine pm_lload d127_52 rfl ?_
                first | refine pm_lmulN d127_54 ?_ | refine pm_lmul d127_54 ?_
                refine pm_lsub d127_55 ?_
                rw [lN_sub hle]
                refine pm_lstore (L2 := [(0, _), (1, _), (2, _), (4, _), (5, _), (6, _), (7, _), (9, _)]) d127_56 (by decide) rfl ?_
                refine pm_lload d127_58 rfl ?_
                refine pm_lconst (v := lN 0) d127_60 rfl ?_
                refine pm_lcmp d127_61 ?_
                refine pm_if_lt (tgt := 103) d127_62 rfl (fun c_62 => ?_) (fun c_62 => ?_)
                · exact absurd c_62 (by rw [lg_cmp_lt, lN_lt63 (by omega) (by omega)]; omega)
                · refine pm_lload d127_65 rfl ?_
                  refine pm_lload d127_67 rfl ?_
                  first | refine pm_lmulN d127_69 ?_ | refine pm_lmul d127_69 ?_
                  refine pm_aload_n (i := 0) d127_70 rfl rfl ?_
                  refine pm_getR d127_71 lf_11_41 rfl rfl ?_
                  refine pm_iload d127_74 rfl ?_
                  refine pm_ialdN d127_76 rfl (by decide) (by omega) ?_
                  rw [x2]
                  first | refine pm_i2lN d127_77 (by omega) ?_ | refine pm_i2l d127_77 rfl ?_
                  first | refine pm_lmulN d127_78 ?_ | refine pm_lmul d127_78 ?_
                  refine pm_lload_n (i := 2) d127_79 rfl rfl ?_
                  refine pm_lload_n (i := 2) d127_80 rfl rfl ?_
                  first | refine pm_lmulN d127_81 ?_ | refine pm_lmul d127_81 ?_
                  refine pm_aload_n (i := 0) d127_82 rfl rfl ?_
                  refine pm_getR d127_83 lf_11_38 rfl rfl ?_
                  refine pm_iload d127_86 rfl ?_
                  refine pm_ialdN d127_88 rfl (by decide) (by omega) ?_
                  rw [x1]
                  first | refine pm_i2lN d127_89 (by omega) ?_ | refine pm_i2l d127_89 rfl ?_
                  first | refine pm_lmulN d127_90 ?_ | refine pm_lmul d127_90 ?_
                  refine pm_lcmp d127_91 ?_
                  refine pm_if_lt (tgt := 103) d127_92 rfl (fun c_92 => ?_) (fun c_92 => ?_)
                  · refine k103 (fun g => ?_)
                    rw [lg_cmp_lt, lN_lt63 bX bY] at c_92
                    have := hrc.mp (hiff.mpr g)
                    omega
                  · refine pm_lload d127_95 rfl ?_
                    refine pm_l2i (v := nI m) d127_97 (lN_i m) ?_
                    refine pm_istore (L2 := [(0, _), (1, _), (2, _), (4, _), (5, _), (6, _), (7, _), (9, _)]) d127_98 (by decide) rfl ?_
                    refine pm_goto (tgt := 110) d127_100 rfl ?_
                    refine pm_goto (tgt := 30) d127_110 rfl ?_
                    refine pm_pick [0, 1, 2, 3, 4, 5] (L2 := [(0, _), (1, _), (2, _), (4, _), (5, _), (6, _)]) rfl ?_
                    rw [lg_cmp_lt, lN_lt63 bX bY] at c_92
                    exact ihn m hi9 (by omega) (hiff.mp (hrc.mpr (by omega))) hhi h3
            · have hno : ¬ m ≤ len f q R := fun g => by
                have := hiff.mpr g
                simp only [rch, Bool.and_eq_true, decide_eq_true_eq] at this
                exact hle this.1
              refine pm_iload d127_30 rfl ?_
              refine pm_iload d127_32 rfl ?_
              first | refine pm_icmp_geN (tgt := 113) d127_34 rfl (by omega) (by omega) (fun c_34 => ?_) (fun c_34 => ?_) | refine pm_icmp_ge (tgt := 113) d127_34 rfl (fun c_34 => ?_) (fun c_34 => ?_)
              · omega
              · refine pm_iload d127_37 rfl ?_
                refine pm_iload d127_39 rfl ?_
                first | refine pm_iaddN d127_41 ?_ | refine pm_iadd d127_41 ?_
                refine pm_iconst (v := nI 1) d127_42 (by decide) ?_
                first | refine pm_iaddN d127_43 ?_ | refine pm_iadd d127_43 ?_
                refine pm_iconst (v := nI 2) d127_44 (by decide) ?_
                refine pm_idiv d127_45 (by decide) ?_
                rw [nI_div2 (by omega), ← hm]
                first | refine pm_i2lN d127_46 (by omega) ?_ | refine pm_i2l d127_46 rfl ?_
                refine pm_lstore (L2 := [(0, _), (1, _), (2, _), (4, _), (5, _), (6, _), (7, _)]) d127_47 (by decide) rfl ?_
                refine pm_lload_n (i := 2) d127_49 rfl rfl ?_
                refine pm_lload d127_50 rfl ?_
                refine pm_lload d127_52 rfl ?_
                first | refine pm_lmulN d127_54 ?_ | refine pm_lmul d127_54 ?_
                refine pm_lsub d127_55 ?_
                refine pm_lstore (L2 := [(0, _), (1, _), (2, _), (4, _), (5, _), (6, _), (7, _), (9, _)]) d127_56 (by decide) rfl ?_
                refine pm_lload d127_58 rfl ?_
                refine pm_lconst (v := lN 0) d127_60 rfl ?_
                refine pm_lcmp d127_61 ?_
                refine pm_if_lt (tgt := 103) d127_62 rfl (fun c_62 => ?_) (fun c_62 => ?_)
                · exact k103 hno
                · refine absurd ?_ c_62
                  rw [lg_cmp_lt]
                  exact lN_neg (by omega) (by omega)
          · skip
            refine pm_iload d127_30 rfl ?_
            refine pm_iload d127_32 rfl ?_
            first | refine pm_icmp_geN (tgt := 113) d127_34 rfl (by omega) (by omega) (fun c_34 => ?_) (fun c_34 => ?_) | refine pm_icmp_ge (tgt := 113) d127_34 rfl (fun c_34 => ?_) (fun c_34 => ?_)
            · refine pm_aload_n (i := 0) d127_113 rfl rfl ?_
              refine pm_getR d127_114 lf_11_50 rfl rfl ?_
              refine pm_iload d127_117 rfl ?_
              refine pm_iload d127_119 rfl ?_
              refine pm_iastN d127_121 rfl (by decide) (by omega) ?_
              first | refine pm_iincN 1 (L2 := [(0, _), (1, _), (2, _), (4, _), (5, _), (6, _)]) d127_122 rfl (by decide) rfl ?_ | refine pm_iinc (L2 := [(0, _), (1, _), (2, _), (4, _), (5, _), (6, _)]) d127_122 rfl rfl (by decide) rfl ?_
              refine pm_goto (tgt := 13) d127_125 rfl ?_
              refine pm_pick [0, 1, 2, 3] (L2 := [(0, _), (1, _), (2, _), (4, _)]) rfl ?_
              refine ih hlt _ (fun c hc => by rw [mset_other hc]; exact g1 c hc) (fun j hj => ?_)
              by_cases e : j = q
              · rw [e, mset_at, show lo9 = len f q R by omega]
              · rw [mset_ne e]; exact g2 j (by omega)
            · omega
      refine pm_iload d127_13 rfl ?_
      refine pm_aload_n (i := 0) d127_15 rfl rfl ?_
      refine pm_getE d127_16 lf_11_100 rfl rfl (e9) ?_
      first | refine pm_icmp_geN (tgt := 128) d127_19 rfl (by omega) (by omega) (fun c_19 => ?_) (fun c_19 => ?_) | refine pm_icmp_ge (tgt := 128) d127_19 rfl (fun c_19 => ?_) (fun c_19 => ?_)
      · omega
      · refine pm_iconst (v := nI 0) d127_22 (by decide) ?_
        refine pm_istore (L2 := [(0, _), (1, _), (2, _), (4, _), (5, _)]) d127_23 (by decide) rfl ?_
        refine pm_sipush (v := nI 3000) d127_25 (by decide) ?_
        refine pm_istore (L2 := [(0, _), (1, _), (2, _), (4, _), (5, _), (6, _)]) d127_28 (by decide) rfl ?_
        have := len_2828 h1 h6 hlt hR
        exact inner 3000 0 3000 (by omega) (Nat.zero_le _) (by omega) (by omega)
    · skip
      refine pm_iload d127_13 rfl ?_
      refine pm_aload_n (i := 0) d127_15 rfl rfl ?_
      refine pm_getE d127_16 lf_11_100 rfl rfl (e9) ?_
      first | refine pm_icmp_geN (tgt := 128) d127_19 rfl (by omega) (by omega) (fun c_19 => ?_) (fun c_19 => ?_) | refine pm_icmp_ge (tgt := 128) d127_19 rfl (fun c_19 => ?_) (fun c_19 => ?_)
      · refine pm_vret d127_128 rfl ?_
        exact h A1 g1 (fun j hj => g2 j (by omega))
      · omega
  refine pm_ldc2 (v := lN 2) d127_0 ll_11_128 ?_
  refine pm_iload_n (i := 1) d127_3 rfl rfl ?_
  first | refine pm_i2lN d127_4 (by omega) ?_ | refine pm_i2l d127_4 rfl ?_
  first | refine pm_lmulN d127_5 ?_ | refine pm_lmul d127_5 ?_
  refine pm_iload_n (i := 1) d127_6 rfl rfl ?_
  first | refine pm_i2lN d127_7 (by omega) ?_ | refine pm_i2l d127_7 rfl ?_
  first | refine pm_lmulN d127_8 ?_ | refine pm_lmul d127_8 ?_
  refine pm_lstore_n (i := 2) (L2 := [(0, _), (1, _), (2, _)]) d127_9 rfl (by decide) rfl ?_
  refine pm_iconst (v := nI 0) d127_10 (by decide) ?_
  refine pm_istore (L2 := [(0, _), (1, _), (2, _), (4, _)]) d127_11 (by decide) rfl ?_
  exact outer 0 (Nat.zero_le _) A (fun _ _ => rfl) (fun j hj => absurd hj (Nat.not_lt_zero j))
theorem MF_keep {f : Nat} {A A2 : Mem} (h : MF f A) (h0 : A2 0 8 = A 0 8) (h13 : A2 13 = A 13) : MF f A2 := by
  unfold MF at *
  rw [h0, h13]
  exact h
theorem MK_keep {f : Nat} {A A2 : Mem} (h : MK f A) (h0 : A2 0 9 = A 0 9) (h9 : A2 9 = A 9) (h10 : A2 10 = A 10) (h11 : A2 11 = A 11) : MK f A2 := by
  unfold MK at *
  rw [h0, h9, h10, h11]
  exact h
theorem sp_126 {f g R : Nat} {A : Mem} {Q : Int32 → Mem → Prop} (h1 : 1 ≤ f) (h6 : f ≤ 6) (hR : R ≤ 2000) (hg : g < 2 ^ 31) (e0 : A 1 0 = nI f) (e1 : A 1 1 = nI R) (e5 : A 0 5 = nI g) (hor : g = f → MB f A)
    (h : ∀ A2 : Mem, (∀ c, c ≠ 0 → (c < 4 ∨ 14 < c) → A2 c = A c) → (∀ j, (j < 5 ∨ 9 < j) → A2 0 j = A 0 j) → MB f A2 → (∀ q, q < nk f → A2 14 q = nI (len f q R)) → Q 0 A2) : pm_P 126 0 [(0, .ref 0)] [] A Q := by
  have k43 : ∀ A1 : Mem, (∀ c, c ≠ 0 → (c < 4 ∨ 14 < c) → A1 c = A c) → (∀ j, (j < 5 ∨ 9 < j) → A1 0 j = A 0 j) → MB f A1 → pm_P 126 43 [(0, .ref 0)] [] A1 Q := by
    intro A1 g1 g0 g2
    refine pm_aload_n (i := 0) d126_43 rfl rfl ?_
    refine pm_aload_n (i := 0) d126_44 rfl rfl ?_
    refine pm_getR d126_45 lf_11_7 rfl rfl ?_
    refine pm_iconst (v := nI 1) d126_48 (by decide) ?_
    refine pm_ialdN d126_49 rfl (by decide) (by omega) ?_
    rw [g1 1 (by decide) (by omega), e1]
    refine pm_callVv (k2 := 127) (As := [_]) d126_50 lk_11_125 ok_127 rfl rfl rfl (Nat.le_of_ble_eq_true rfl) rfl rfl rfl rfl rfl ⟨Nat.le_of_ble_eq_true rfl, Nat.le_of_ble_eq_true rfl⟩ (Nat.le_of_ble_eq_true rfl) ?_
    refine sp_127 h1 h6 g2.2.2.2.2 hR (fun A2 f1 f2 => ?_)
    refine pm_vret d126_53 rfl ?_
    exact h A2 (fun c hc q => by rw [f1 c (by omega)]; exact g1 c hc q) (fun j hj => by rw [f1 0 (by decide)]; exact g0 j hj) (MB_keep g2 (fun j _ _ => by rw [f1 0 (by decide)]) (fun c _ hc => f1 c (by omega))) f2
  refine pm_aload_n (i := 0) d126_0 rfl rfl ?_
  refine pm_getE (v := nI g) d126_1 lf_11_109 rfl rfl (e5) ?_
  refine pm_aload_n (i := 0) d126_4 rfl rfl ?_
  refine pm_getR d126_5 lf_11_7 rfl rfl ?_
  refine pm_iconst (v := nI 0) d126_8 (by decide) ?_
  refine pm_ialdN d126_9 rfl (by decide) (by omega) ?_
  rw [e0]
  first | refine pm_icmp_eqN (tgt := 43) d126_10 rfl (by omega) (by omega) (fun c_10 => ?_) (fun c_10 => ?_) | refine pm_icmp_eq (tgt := 43) d126_10 rfl (fun c_10 => ?_) (fun c_10 => ?_)
  · exact k43 A (fun _ _ _ => rfl) (fun _ _ => rfl) (hor c_10)
  · refine pm_aload_n (i := 0) d126_13 rfl rfl ?_
    refine pm_aload_n (i := 0) d126_14 rfl rfl ?_
    refine pm_getR d126_15 lf_11_7 rfl rfl ?_
    refine pm_iconst (v := nI 0) d126_18 (by decide) ?_
    refine pm_ialdN d126_19 rfl (by decide) (by omega) ?_
    rw [e0]
    refine pm_putI d126_20 lp_11_109 rfl rfl ?_
    refine pm_aload_n (i := 0) d126_23 rfl rfl ?_
    refine pm_aload_n (i := 0) d126_24 rfl rfl ?_
    refine pm_getE (v := nI f) d126_25 lf_11_109 rfl rfl (by rw [mset_at]) ?_
    refine pm_callVv (k2 := 117) (As := [_]) d126_28 lk_11_112 ok_117 rfl rfl rfl (Nat.le_of_ble_eq_true rfl) rfl rfl rfl rfl rfl ⟨Nat.le_of_ble_eq_true rfl, Nat.le_of_ble_eq_true rfl⟩ (Nat.le_of_ble_eq_true rfl) ?_
    refine sp_117 h1 h6 (fun A2 f1 f2 f3 => ?_)
    refine pm_aload_n (i := 0) d126_31 rfl rfl ?_
    refine pm_callVv (k2 := 123) (As := []) d126_32 lk_11_116 ok_123 rfl rfl rfl (Nat.le_of_ble_eq_true rfl) rfl rfl rfl rfl rfl ⟨Nat.le_of_ble_eq_true rfl, Nat.le_of_ble_eq_true rfl⟩ (Nat.le_of_ble_eq_true rfl) ?_
    refine sp_123 h1 h6 f3 (fun A3 k1 k2 k3 => ?_)
    have b1 : MH f A3 := MH_keep f3 (k2 6 (by decide)) (fun c _ _ => k1 c (by omega) (by omega) (by omega) (by omega))
    refine pm_aload_n (i := 0) d126_35 rfl rfl ?_
    refine pm_callVv (k2 := 124) (As := []) d126_36 lk_11_119 ok_124 rfl rfl rfl (Nat.le_of_ble_eq_true rfl) rfl rfl rfl rfl rfl ⟨Nat.le_of_ble_eq_true rfl, Nat.le_of_ble_eq_true rfl⟩ (Nat.le_of_ble_eq_true rfl) ?_
    refine sp_124 h1 h6 b1 k3 (fun A4 m1 m2 m3 => ?_)
    have b2 : MH f A4 := MH_keep b1 (m2 6 (by decide)) (fun c _ _ => m1 c (by omega) (by omega))
    have b3 : MS f A4 := MS_keep k3 (m2 7 (by decide)) (m1 7 (by decide) (by decide)) (m1 8 (by decide) (by decide)) (m1 12 (by decide) (by decide))
    refine pm_aload_n (i := 0) d126_39 rfl rfl ?_
    refine pm_callVv (k2 := 125) (As := []) d126_40 lk_11_122 ok_125 rfl rfl rfl (Nat.le_of_ble_eq_true rfl) rfl rfl rfl rfl rfl ⟨Nat.le_of_ble_eq_true rfl, Nat.le_of_ble_eq_true rfl⟩ (Nat.le_of_ble_eq_true rfl) ?_
    refine sp_125 h1 h6 b2 b3 (fun A5 n1 n2 n3 => ?_)
    refine k43 A5 (fun c hc q => ?_) (fun j hj => ?_) ⟨?_, MH_keep b2 (n2 6 (by decide)) (fun c _ _ => n1 c (by omega) (by omega) (by omega) (by omega)), MS_keep b3 (n2 7 (by decide)) (n1 7 (by decide) (by decide) (by decide) (by decide)) (n1 8 (by decide) (by decide) (by decide) (by decide)) (n1 12 (by decide) (by decide) (by decide) (by decide)), MF_keep m3 (n2 8 (by decide)) (n1 13 (by decide) (by decide) (by decide) (by decide)), n3⟩
    · rw [n1 c hc (by omega) (by omega) (by omega), m1 c hc (by omega), k1 c hc (by omega) (by omega) (by omega), f1 c hc (by omega) (by omega) (by omega), mset_other hc]
    · rw [n2 j (by omega), m2 j (by omega), k2 j (by omega), f2 j (by omega), mset_ne (by omega)]
    · rw [n2 5 (by decide), m2 5 (by decide), k2 5 (by decide), f2 5 (by decide), mset_at]
theorem SM_keepI {c o : Nat} {s : Stt} {A A2 : Mem} (h : SM c o s A) (hk : ∀ i, o ≤ i → i < o + 437 → A2 c i = A c i) : SM c o s A2 := by
  unfold SM at *
  rw [hk o (by omega) (by omega), hk (o + 1) (by omega) (by omega), hk (o + 2) (by omega) (by omega), hk (o + 3) (by omega) (by omega), hk (o + 4) (by omega) (by omega)]
  exact ⟨h.1, h.2.1, h.2.2.1, h.2.2.2.1, h.2.2.2.2.1, fun k hk2 => by rw [hk (o + 5 + k) (by omega) (by omega)]; exact h.2.2.2.2.2 k hk2⟩
theorem SM_copy {c o c2 o2 : Nat} {s : Stt} {A A2 : Mem} (h : SM c o s A) (hk : ∀ i, i < 437 → A2 c2 (o2 + i) = A c (o + i)) : SM c2 o2 s A2 := by
  have h0 := hk 0 (by omega)
  rw [Nat.add_zero, Nat.add_zero] at h0
  unfold SM at *
  rw [h0, hk 1 (by omega), hk 2 (by omega), hk 3 (by omega), hk 4 (by omega)]
  exact ⟨h.1, h.2.1, h.2.2.1, h.2.2.2.1, h.2.2.2.2.1, fun k hk2 => by
    have := hk (5 + k) (by omega)
    rw [← Nat.add_assoc, ← Nat.add_assoc] at this
    rw [this]
    exact h.2.2.2.2.2 k hk2⟩
theorem sp_115 {H : Hst} {s : Stt} {A : Mem} {Q : Int32 → Mem → Prop} (hH : MHi H A) (hs : SM 1 0 s A) (ho : okS s) (h : ∀ A2 : Mem, (∀ c, c ≠ 0 → c ≠ 2 → A2 c = A c) → (∀ j, j ≠ 2 → A2 0 j = A 0 j) → MHi (hpush H s) A2 → Q 0 A2) : pm_P 115 0 [(0, .ref 0)] [] A Q := by
  obtain ⟨h1, h2, h3⟩ := hH
  have k50 : ∀ (p : Nat) (st : Nat → Stt) (A0 : Mem), p ≤ 5 → A0 0 2 = nI p → (∀ c, c ≠ 0 → c ≠ 2 → A0 c = A c) → (∀ j, j ≠ 2 → A0 0 j = A 0 j) → (∀ j, j < p → SM 2 (437 * j) (st j) A0 ∧ okS (st j)) → hpush H s = (p + 1, uN st p s) → ∀ i, i ≤ 437 → ∀ A1 : Mem, (∀ c, c ≠ 2 → A1 c = A0 c) → (∀ k, k < 437 * p → A1 2 k = A0 2 k) → (∀ k, k < i → A1 2 (437 * p + k) = A 1 k) → pm_P 115 52 [(0, .ref 0), (1, .int (nI i))] [] A1 Q := by
    intro p st A0 hp q2 q1 q0 q3 q4
    refine up_ind (fun i hi9 ih A1 g1 g2 g3 => ?_)
    have e2 : A1 0 2 = nI p := by rw [g1 0 (by decide)]; exact q2
    refine pm_iload_n (i := 1) d115_52 rfl rfl ?_
    refine pm_sipush (v := nI 437) d115_53 (by decide) ?_
    first | refine pm_icmp_geN (tgt := 86) d115_56 rfl (by omega) (by omega) (fun c_56 => ?_) (fun c_56 => ?_) | refine pm_icmp_ge (tgt := 86) d115_56 rfl (fun c_56 => ?_) (fun c_56 => ?_)
    · refine pm_aload_n (i := 0) d115_86 rfl rfl ?_
      refine pm_dup d115_87 rfl ?_
      refine pm_getE d115_88 lf_11_72 rfl rfl (e2) ?_
      refine pm_iconst (v := nI 1) d115_91 (by decide) ?_
      first | refine pm_iaddN d115_92 ?_ | refine pm_iadd d115_92 ?_
      refine pm_putI d115_93 lp_11_72 rfl rfl ?_
      refine pm_vret d115_96 rfl ?_
      refine h _ (fun c c1 c2 => by rw [mset_other c1, g1 c c2]; exact q1 c c1 c2) (fun j hj => by rw [mset_ne hj, g1 0 (by decide)]; exact q0 j hj) ?_
      rw [q4]
      refine ⟨by show p + 1 ≤ 6; omega, by rw [mset_at], fun j hj => ?_⟩
      dsimp only at hj ⊢
      by_cases e : j = p
      · rw [e, uN_at]
        refine ⟨SM_copy hs (fun k hk => ?_), ho⟩
        rw [mset_other (by decide), g3 k (by omega), Nat.zero_add]
      · rw [uN_ne e]
        obtain ⟨a1, a2⟩ := q3 j (by omega)
        refine ⟨SM_keepI a1 (fun k hk1 hk2 => ?_), a2⟩
        rw [mset_other (by decide), g2 k (by omega)]
    · refine pm_aload_n (i := 0) d115_59 rfl rfl ?_
      refine pm_getR d115_60 lf_11_13 rfl rfl ?_
      refine pm_sipush (v := nI 437) d115_63 (by decide) ?_
      refine pm_aload_n (i := 0) d115_66 rfl rfl ?_
      refine pm_getE d115_67 lf_11_72 rfl rfl (e2) ?_
      first | refine pm_imulN d115_70 ?_ | refine pm_imul d115_70 ?_
      refine pm_iload_n (i := 1) d115_71 rfl rfl ?_
      first | refine pm_iaddN d115_72 ?_ | refine pm_iadd d115_72 ?_
      refine pm_aload_n (i := 0) d115_73 rfl rfl ?_
      refine pm_getR d115_74 lf_11_7 rfl rfl ?_
      refine pm_iload_n (i := 1) d115_77 rfl rfl ?_
      refine pm_ialdN d115_78 rfl (by decide) (by omega) ?_
      rw [g1 1 (by decide), q1 1 (by decide) (by decide)]
      refine pm_iastN d115_79 rfl (by decide) (by omega) ?_
      first | refine pm_iincN 1 (L2 := [(0, _), (1, _)]) d115_80 rfl (by decide) rfl ?_ | refine pm_iinc (L2 := [(0, _), (1, _)]) d115_80 rfl rfl (by decide) rfl ?_
      refine pm_goto (tgt := 52) d115_83 rfl ?_
      refine ih c_56 _ (fun c hc => by rw [mset_other hc]; exact g1 c hc) (fun k hk => by rw [mset_ne (by omega)]; exact g2 k hk) (fun k hk => ?_)
      by_cases e : k = i
      · rw [e, mset_at]
      · rw [mset_ne (by omega)]; exact g3 k (by omega)
  have k11 : H.1 = 6 → ∀ i, i ≤ 2185 → ∀ A1 : Mem, (∀ c, c ≠ 2 → A1 c = A c) → (∀ k, k < i → A1 2 k = A 2 (k + 437)) → (∀ k, i ≤ k → A1 2 k = A 2 k) → pm_P 115 11 [(0, .ref 0), (1, .int (nI i))] [] A1 Q := by
    intro h6
    refine up_ind (fun i hi9 ih A1 g1 g2 g3 => ?_)
    have e2 : A1 0 2 = nI 6 := by rw [g1 0 (by decide), h2, h6]
    refine pm_iload_n (i := 1) d115_11 rfl rfl ?_
    refine pm_sipush (v := nI 2185) d115_12 (by decide) ?_
    first | refine pm_icmp_geN (tgt := 40) d115_15 rfl (by omega) (by omega) (fun c_15 => ?_) (fun c_15 => ?_) | refine pm_icmp_ge (tgt := 40) d115_15 rfl (fun c_15 => ?_) (fun c_15 => ?_)
    · refine pm_aload_n (i := 0) d115_40 rfl rfl ?_
      refine pm_dup d115_41 rfl ?_
      refine pm_getE d115_42 lf_11_72 rfl rfl (e2) ?_
      refine pm_iconst (v := nI 1) d115_45 (by decide) ?_
      first | refine pm_isubN d115_46 (by omega) ?_ | refine pm_isub d115_46 ?_
      refine pm_putI d115_47 lp_11_72 rfl rfl ?_
      refine pm_iconst (v := nI 0) d115_50 (by decide) ?_
      refine pm_istore_n (i := 1) (L2 := [(0, _), (1, _)]) d115_51 rfl (by decide) rfl ?_
      refine k50 5 (fun j => H.2 (j + 1)) _ (by omega) (by rw [mset_at]) (fun c c1 c2 => by rw [mset_other c1]; exact g1 c c2) (fun j hj => by rw [mset_ne hj, g1 0 (by decide)]) (fun j hj => ?_) (by unfold hpush; rw [if_neg (by omega)]) 0 (Nat.zero_le _) _ (fun c _ => rfl) (fun k _ => rfl) (fun k hk => absurd hk (Nat.not_lt_zero k))
      obtain ⟨a1, a2⟩ := h3 (j + 1) (by omega)
      refine ⟨SM_copy a1 (fun k hk => ?_), a2⟩
      rw [mset_other (by decide), g2 _ (by omega), show 437 * j + k + 437 = 437 * (j + 1) + k by omega]
    · refine pm_aload_n (i := 0) d115_18 rfl rfl ?_
      refine pm_getR d115_19 lf_11_13 rfl rfl ?_
      refine pm_iload_n (i := 1) d115_22 rfl rfl ?_
      refine pm_aload_n (i := 0) d115_23 rfl rfl ?_
      refine pm_getR d115_24 lf_11_13 rfl rfl ?_
      refine pm_iload_n (i := 1) d115_27 rfl rfl ?_
      refine pm_sipush (v := nI 437) d115_28 (by decide) ?_
      first | refine pm_iaddN d115_31 ?_ | refine pm_iadd d115_31 ?_
      refine pm_ialdN d115_32 rfl (by decide) (by omega) ?_
      rw [g3 (i + 437) (by omega)]
      refine pm_iastN d115_33 rfl (by decide) (by omega) ?_
      first | refine pm_iincN 1 (L2 := [(0, _), (1, _)]) d115_34 rfl (by decide) rfl ?_ | refine pm_iinc (L2 := [(0, _), (1, _)]) d115_34 rfl rfl (by decide) rfl ?_
      refine pm_goto (tgt := 11) d115_37 rfl ?_
      refine ih c_15 _ (fun c hc => by rw [mset_other hc]; exact g1 c hc) (fun k hk => ?_) (fun k hk => ?_)
      · by_cases e : k = i
        · rw [e, mset_at]
        · rw [mset_ne e]; exact g2 k (by omega)
      · rw [mset_ne (by omega)]; exact g3 k (by omega)
  refine pm_aload_n (i := 0) d115_0 rfl rfl ?_
  refine pm_getE d115_1 lf_11_72 rfl rfl (h2) ?_
  refine pm_bipush (v := nI 6) d115_4 (by decide) ?_
  first | refine pm_icmp_neN (tgt := 50) d115_6 rfl (by omega) (by omega) (fun c_6 => ?_) (fun c_6 => ?_) | refine pm_icmp_ne (tgt := 50) d115_6 rfl (fun c_6 => ?_) (fun c_6 => ?_)
  · refine pm_iconst (v := nI 0) d115_50 (by decide) ?_
    refine pm_istore_n (i := 1) (L2 := [(0, _), (1, _)]) d115_51 rfl (by decide) rfl ?_
    exact k50 H.1 H.2 A (by omega) h2 (fun _ _ _ => rfl) (fun _ _ => rfl) h3 (by unfold hpush; rw [if_pos (by omega)]) 0 (Nat.zero_le _) A (fun _ _ => rfl) (fun _ _ => rfl) (fun k hk => absurd hk (Nat.not_lt_zero k))
  · refine pm_iconst (v := nI 0) d115_9 (by decide) ?_
    refine pm_istore_n (i := 1) (L2 := [(0, _), (1, _)]) d115_10 rfl (by decide) rfl ?_
    exact k11 c_6 0 (Nat.zero_le _) A (fun _ _ => rfl) (fun k hk => absurd hk (Nat.not_lt_zero k)) (fun _ _ => rfl)
theorem sp_164 {A : Mem} {Q : Int32 → Mem → Prop} (h : ∀ A2 : Mem, (∀ c, c ≠ 1 → A2 c = A c) → (∀ j, j < 5 → A2 1 j = A 1 j) → (∀ k, k < 432 → A2 1 (5 + k) = nI 0) → Q 0 A2) : pm_P 164 0 [(0, .ref 0)] [] A Q := by
  have lp : ∀ i, i ≤ 432 → ∀ A1 : Mem, (∀ c, c ≠ 1 → A1 c = A c) → (∀ j, j < 5 → A1 1 j = A 1 j) → (∀ k, k < i → A1 1 (5 + k) = nI 0) → pm_P 164 2 [(0, .ref 0), (1, .int (nI i))] [] A1 Q := by
    refine up_ind (fun i hi9 ih A1 g1 g0 g2 => ?_)
    refine pm_iload_n (i := 1) d164_2 rfl rfl ?_
    refine pm_sipush (v := nI 432) d164_3 (by decide) ?_
    first | refine pm_icmp_geN (tgt := 24) d164_6 rfl (by omega) (by omega) (fun c_6 => ?_) (fun c_6 => ?_) | refine pm_icmp_ge (tgt := 24) d164_6 rfl (fun c_6 => ?_) (fun c_6 => ?_)
    · refine pm_vret d164_24 rfl ?_
      exact h A1 g1 g0 (fun k hk => g2 k (by omega))
    · refine pm_aload_n (i := 0) d164_9 rfl rfl ?_
      refine pm_getR d164_10 lf_11_7 rfl rfl ?_
      refine pm_iconst (v := nI 5) d164_13 (by decide) ?_
      refine pm_iload_n (i := 1) d164_14 rfl rfl ?_
      first | refine pm_iaddN d164_15 ?_ | refine pm_iadd d164_15 ?_
      refine pm_iconst (v := nI 0) d164_16 (by decide) ?_
      refine pm_iastN d164_17 rfl (by decide) (by omega) ?_
      first | refine pm_iincN 1 (L2 := [(0, _), (1, _)]) d164_18 rfl (by decide) rfl ?_ | refine pm_iinc (L2 := [(0, _), (1, _)]) d164_18 rfl rfl (by decide) rfl ?_
      refine pm_goto (tgt := 2) d164_21 rfl ?_
      refine ih c_6 _ (fun c hc => by rw [mset_other hc]; exact g1 c hc) (fun j hj => by rw [mset_ne (by omega)]; exact g0 j hj) (fun k hk => ?_)
      by_cases e : k = i
      · rw [e, mset_at]
      · rw [mset_ne (by omega)]; exact g2 k (by omega)
  refine pm_iconst (v := nI 0) d164_0 (by decide) ?_
  refine pm_istore_n (i := 1) (L2 := [(0, _), (1, _)]) d164_1 rfl (by decide) rfl ?_
  exact lp 0 (Nat.zero_le _) A (fun _ _ => rfl) (fun _ _ => rfl) (fun k hk => absurd hk (Nat.not_lt_zero k))
theorem MW_mk {s : Stt} {H : Hst} {x : Txt} {A : Mem} (h1 : okS s) (h2 : MB (sF s) A) (h3 : SM 1 0 s A) (h4 : LNm s (sR s) A) (h5 : MHi H A) (h6 : MTx x A) (h7 : okT x) : MW (s, H, x) A := ⟨⟨h1, h2, h3⟩, h4, h5, h6, h7⟩
theorem pd_128 {σ : Sig} {v : Int32} {A : Mem} {Q : Int32 → Mem → Prop} (hC : MW σ A) (h : ∀ A2, MW (aSplit σ v).2 A2 → Q (aSplit σ v).1 A2) : pm_P 128 0 [(0, .ref 0), (1, .int v)] [] A Q := by
  obtain ⟨s, H, x⟩ := σ
  obtain ⟨hI, hL, hH, hT, hX⟩ := id hC
  dsimp only at hI hL hH hT hX
  unfold aSplit at h
  dsimp only at h
  refine pm_iload_n (i := 1) d128_0 rfl rfl ?_
  refine pm_iconst (v := nI 1) d128_1 (by decide) ?_
  refine pm_bipush (v := nI 6) d128_2 (by decide) ?_
  refine pm_callS (k2 := 113) (As := [_, _, _]) d128_4 lk_11_130 ok_113 rfl rfl rfl (Nat.le_of_ble_eq_true rfl) rfl rfl ⟨Nat.le_of_ble_eq_true rfl, Nat.le_of_ble_eq_true rfl⟩ (Nat.le_of_ble_eq_true rfl) ?_
  refine sp_113 ?_
  rw [wi_def]
  first | refine pm_if_neB (tgt := 14) d128_7 rfl (fun c_7 => ?_) (fun c_7 => ?_) | refine pm_if_neN (tgt := 14) d128_7 rfl (by omega) (fun c_7 => ?_) (fun c_7 => ?_) | refine pm_if_ne (tgt := 14) d128_7 rfl (fun c_7 => ?_) (fun c_7 => ?_)
  · obtain ⟨a, ha1, ha6, rfl⟩ := wi_of (by decide) (by decide) c_7
    rw [if_pos c_7, nI_clamp (by omega)] at h 
    refine pm_aload_n (i := 0) d128_14 rfl rfl ?_
    refine pm_callVv (k2 := 115) (As := []) d128_15 lk_11_134 ok_115 rfl rfl rfl (Nat.le_of_ble_eq_true rfl) rfl rfl rfl rfl rfl ⟨Nat.le_of_ble_eq_true rfl, Nat.le_of_ble_eq_true rfl⟩ (Nat.le_of_ble_eq_true rfl) ?_
    refine sp_115 hH hI.2.2 hI.1 (fun A1 f1 f2 f3 => ?_)
    refine pm_aload_n (i := 0) d128_18 rfl rfl ?_
    refine pm_getR d128_19 lf_11_7 rfl rfl ?_
    refine pm_iconst (v := nI 0) d128_22 (by decide) ?_
    refine pm_iload_n (i := 1) d128_23 rfl rfl ?_
    refine pm_iastN d128_24 rfl (by decide) (by omega) ?_
    refine pm_aload_n (i := 0) d128_25 rfl rfl ?_
    refine pm_getR d128_26 lf_11_7 rfl rfl ?_
    refine pm_iconst (v := nI 2) d128_29 (by decide) ?_
    refine pm_iload_n (i := 1) d128_30 rfl rfl ?_
    refine pm_ineg d128_31 ?_
    refine pm_iastN d128_32 rfl (by decide) (by omega) ?_
    refine pm_aload_n (i := 0) d128_33 rfl rfl ?_
    refine pm_callVv (k2 := 164) (As := []) d128_34 lk_11_137 ok_164 rfl rfl rfl (Nat.le_of_ble_eq_true rfl) rfl rfl rfl rfl rfl ⟨Nat.le_of_ble_eq_true rfl, Nat.le_of_ble_eq_true rfl⟩ (Nat.le_of_ble_eq_true rfl) ?_
    refine sp_164 (fun A2 g1 g2 g3 => ?_)
    have e10 : A2 1 0 = nI a := by rw [g2 0 (by omega), mset_ne (by decide), mset_at]
    have e11 : A2 1 1 = nI (sR s) := by rw [g2 1 (by omega), mset_ne (by decide), mset_ne (by decide), f1 1 (by decide) (by decide)]; exact hI.2.2.2.1
    have eA : ∀ c, c ≠ 0 → c ≠ 1 → c ≠ 2 → A2 c = A c := fun c c1 c2 c3 => by rw [g1 c c2, mset_other c2, mset_other c2]; exact f1 c c1 c3
    have e0 : ∀ j, j ≠ 2 → A2 0 j = A 0 j := fun j hj => by rw [g1 0 (by decide), mset_other (by decide), mset_other (by decide)]; exact f2 j hj
    refine pm_aload_n (i := 0) d128_37 rfl rfl ?_
    refine pm_callVv (k2 := 126) (As := []) d128_38 lk_11_69 ok_126 rfl rfl rfl (Nat.le_of_ble_eq_true rfl) rfl rfl rfl rfl rfl ⟨Nat.le_of_ble_eq_true rfl, Nat.le_of_ble_eq_true rfl⟩ (Nat.le_of_ble_eq_true rfl) ?_
    refine sp_126 (g := sF s) ha1 ha6 hI.1.2.2.2.1 (by have := hI.1.2.1; omega) e10 e11 (by rw [e0 5 (by decide)]; exact hI.2.1.1) (fun q => by rw [← q]; exact MB_keep hI.2.1 (fun j _ _ => e0 j (by omega)) (fun c _ _ => eA c (by omega) (by omega) (by omega))) (fun A3 k1 k2 k3 k4 => ?_)
    refine pm_aload_n (i := 0) d128_41 rfl rfl ?_
    refine pm_getE d128_42 lf_11_76 rfl rfl (k3.2.1.1) ?_
    refine pm_iret d128_45 rfl (by first | rfl | exact nar_b _) ?_
    refine h A3 (MW_mk ⟨ha1, ha6, hI.1.2.2.1, hI.1.2.2.2.1, hI.1.2.2.2.2.1, hI.1.2.2.2.2.2.1, hI.1.2.2.2.2.2.2.1, none_ok a⟩ k3 ⟨?_, ?_, ?_, ?_, ?_, fun k hk => ?_⟩ k4 (MHi_keep f3 ?_ ?_) (MTx_keep hT ?_ ?_) hX)
    · rw [k1 1 (by decide) (by omega)]; exact e10
    · rw [k1 1 (by decide) (by omega)]; exact e11
    · rw [k1 1 (by decide) (by omega), g2 _ (by omega), mset_at]; rfl
    · rw [k1 1 (by decide) (by omega), g2 _ (by omega), mset_ne (by decide), mset_ne (by decide), f1 1 (by decide) (by decide)]; exact hI.2.2.2.2.2.1
    · rw [k1 1 (by decide) (by omega), g2 _ (by omega), mset_ne (by decide), mset_ne (by decide), f1 1 (by decide) (by decide)]; exact hI.2.2.2.2.2.2.1
    · rw [k1 1 (by decide) (by omega), Nat.zero_add, g3 k hk]; rfl
    · rw [k2 2 (by omega), g1 0 (by decide), mset_other (by decide), mset_other (by decide)]
    · rw [k1 2 (by decide) (by omega), g1 2 (by decide), mset_other (by decide), mset_other (by decide)]
    · rw [k2 4 (by omega), e0 4 (by decide)]
    · rw [k1 3 (by decide) (by omega), eA 3 (by decide) (by decide) (by decide)]
  · rw [if_neg (by rw [c_7]; decide)] at h 
    refine pm_sipush (v := -1001) d128_10 (by decide) ?_
    refine pm_iret d128_13 rfl (by first | rfl | exact nar_b _) ?_
    exact h A hC
theorem pd_129 {σ : Sig} {v : Int32} {A : Mem} {Q : Int32 → Mem → Prop} (hC : MW σ A) (h : ∀ A2, MW (aRad σ v).2 A2 → Q (aRad σ v).1 A2) : pm_P 129 0 [(0, .ref 0), (1, .int v)] [] A Q := by
  obtain ⟨s, H, x⟩ := σ
  obtain ⟨hI, hL, hH, hT, hX⟩ := id hC
  dsimp only at hI hL hH hT hX
  unfold aRad at h
  dsimp only at h
  refine pm_iload_n (i := 1) d129_0 rfl rfl ?_
  refine pm_bipush (v := nI 10) d129_1 (by decide) ?_
  refine pm_sipush (v := nI 2000) d129_3 (by decide) ?_
  refine pm_callS (k2 := 113) (As := [_, _, _]) d129_6 lk_11_130 ok_113 rfl rfl rfl (Nat.le_of_ble_eq_true rfl) rfl rfl ⟨Nat.le_of_ble_eq_true rfl, Nat.le_of_ble_eq_true rfl⟩ (Nat.le_of_ble_eq_true rfl) ?_
  refine sp_113 ?_
  rw [wi_def]
  first | refine pm_if_neB (tgt := 16) d129_9 rfl (fun c_9 => ?_) (fun c_9 => ?_) | refine pm_if_neN (tgt := 16) d129_9 rfl (by omega) (fun c_9 => ?_) (fun c_9 => ?_) | refine pm_if_ne (tgt := 16) d129_9 rfl (fun c_9 => ?_) (fun c_9 => ?_)
  · obtain ⟨a, ha1, ha6, rfl⟩ := wi_of (by decide) (by decide) c_9
    rw [if_pos c_9, nI_clamp (by omega)] at h 
    refine pm_aload_n (i := 0) d129_16 rfl rfl ?_
    refine pm_callVv (k2 := 115) (As := []) d129_17 lk_11_134 ok_115 rfl rfl rfl (Nat.le_of_ble_eq_true rfl) rfl rfl rfl rfl rfl ⟨Nat.le_of_ble_eq_true rfl, Nat.le_of_ble_eq_true rfl⟩ (Nat.le_of_ble_eq_true rfl) ?_
    refine sp_115 hH hI.2.2 hI.1 (fun A1 f1 f2 f3 => ?_)
    have hB1 : ∀ w, MB (sF s) (mset A1 1 1 w) := fun w => MB_keep hI.2.1 (fun j _ _ => by rw [mset_other (by decide)]; exact f2 j (by omega)) (fun c _ _ => by rw [mset_other (by omega)]; exact f1 c (by omega) (by omega))
    refine pm_aload_n (i := 0) d129_20 rfl rfl ?_
    refine pm_getR d129_21 lf_11_7 rfl rfl ?_
    refine pm_iconst (v := nI 1) d129_24 (by decide) ?_
    refine pm_ialdN d129_25 rfl (by decide) (by omega) ?_
    rw [f1 1 (by decide) (by decide), show A 1 1 = nI (sR s) from hI.2.2.2.1]
    refine pm_istore_n (i := 2) (L2 := [(0, _), (1, _), (2, _)]) d129_26 rfl (by decide) rfl ?_
    refine pm_aload_n (i := 0) d129_27 rfl rfl ?_
    refine pm_getR d129_28 lf_11_7 rfl rfl ?_
    refine pm_iconst (v := nI 1) d129_31 (by decide) ?_
    refine pm_iload_n (i := 1) d129_32 rfl rfl ?_
    refine pm_iastN d129_33 rfl (by decide) (by omega) ?_
    refine pm_aload_n (i := 0) d129_34 rfl rfl ?_
    refine pm_iload_n (i := 1) d129_35 rfl rfl ?_
    refine pm_callVv (k2 := 127) (As := [_]) d129_36 lk_11_125 ok_127 rfl rfl rfl (Nat.le_of_ble_eq_true rfl) rfl rfl rfl rfl rfl ⟨Nat.le_of_ble_eq_true rfl, Nat.le_of_ble_eq_true rfl⟩ (Nat.le_of_ble_eq_true rfl) ?_
    refine sp_127 hI.1.1 hI.1.2.1 (hB1 _).2.2.2.2 ha6 (fun A2 g1 g2 => ?_)
    refine pm_iload_n (i := 2) d129_39 rfl rfl ?_
    refine pm_iret d129_40 rfl (by first | rfl | exact nar_b _) ?_
    refine h A2 (MW_mk ⟨hI.1.1, hI.1.2.1, ha1, ha6, hI.1.2.2.2.2⟩ (MB_keep (hB1 (nI a)) (fun j _ _ => by rw [g1 0 (by decide)]) (fun c _ _ => g1 c (by omega))) ⟨?_, ?_, ?_, ?_, ?_, fun k hk => ?_⟩ g2 (MHi_keep f3 ?_ ?_) (MTx_keep hT ?_ ?_) hX)
    · rw [g1 1 (by decide), mset_ne (by decide), f1 1 (by decide) (by decide)]; exact hI.2.2.1
    · rw [g1 1 (by decide), mset_at]; rfl
    · rw [g1 1 (by decide), mset_ne (by decide), f1 1 (by decide) (by decide)]; exact hI.2.2.2.2.1
    · rw [g1 1 (by decide), mset_ne (by decide), f1 1 (by decide) (by decide)]; exact hI.2.2.2.2.2.1
    · rw [g1 1 (by decide), mset_ne (by decide), f1 1 (by decide) (by decide)]; exact hI.2.2.2.2.2.2.1
    · rw [g1 1 (by decide), mset_ne (by omega), f1 1 (by decide) (by decide)]; exact hI.2.2.2.2.2.2.2 k hk
    · rw [g1 0 (by decide), mset_other (by decide)]
    · rw [g1 2 (by decide), mset_other (by decide)]
    · rw [g1 0 (by decide), mset_other (by decide), f2 4 (by decide)]
    · rw [g1 3 (by decide), mset_other (by decide), f1 3 (by decide) (by decide)]
  · rw [if_neg (by rw [c_9]; decide)] at h 
    refine pm_sipush (v := -1001) d129_12 (by decide) ?_
    refine pm_iret d129_15 rfl (by first | rfl | exact nar_b _) ?_
    exact h A hC
theorem pd_132 {σ : Sig} {v : Int32} {A : Mem} {Q : Int32 → Mem → Prop} (hC : MW σ A) (h : ∀ A2, MW (aCut σ v).2 A2 → Q (aCut σ v).1 A2) : pm_P 132 0 [(0, .ref 0), (1, .int v)] [] A Q := by
  obtain ⟨s, H, x⟩ := σ
  obtain ⟨hI, hL, hH, hT, hX⟩ := id hC
  dsimp only at hI hL hH hT hX
  unfold aCut at h
  dsimp only at h
  have e10 : A 1 0 = nI (sF s) := hI.2.2.1
  refine pm_iload_n (i := 1) d132_0 rfl rfl ?_
  refine pm_aload_n (i := 0) d132_1 rfl rfl ?_
  refine pm_getR d132_2 lf_11_7 rfl rfl ?_
  refine pm_iconst (v := nI 0) d132_5 (by decide) ?_
  refine pm_ialdN d132_6 rfl (by decide) (by omega) ?_
  rw [e10]
  refine pm_ineg d132_7 ?_
  refine pm_aload_n (i := 0) d132_8 rfl rfl ?_
  refine pm_getR d132_9 lf_11_7 rfl rfl ?_
  refine pm_iconst (v := nI 0) d132_12 (by decide) ?_
  refine pm_ialdN d132_13 rfl (by decide) (by omega) ?_
  rw [e10]
  refine pm_callS (k2 := 113) (As := [_, _, _]) d132_14 lk_11_130 ok_113 rfl rfl rfl (Nat.le_of_ble_eq_true rfl) rfl rfl ⟨Nat.le_of_ble_eq_true rfl, Nat.le_of_ble_eq_true rfl⟩ (Nat.le_of_ble_eq_true rfl) ?_
  refine sp_113 ?_
  rw [show (decide (-nI (sF s) ≤ v) && decide (v ≤ nI (sF s))) = wc v (sF s) from rfl]
  first | refine pm_if_neB (tgt := 24) d132_17 rfl (fun c_17 => ?_) (fun c_17 => ?_) | refine pm_if_neN (tgt := 24) d132_17 rfl (by omega) (fun c_17 => ?_) (fun c_17 => ?_) | refine pm_if_ne (tgt := 24) d132_17 rfl (fun c_17 => ?_) (fun c_17 => ?_)
  · rw [if_pos c_17] at h 
    refine pm_aload_n (i := 0) d132_24 rfl rfl ?_
    refine pm_callVv (k2 := 115) (As := []) d132_25 lk_11_134 ok_115 rfl rfl rfl (Nat.le_of_ble_eq_true rfl) rfl rfl rfl rfl rfl ⟨Nat.le_of_ble_eq_true rfl, Nat.le_of_ble_eq_true rfl⟩ (Nat.le_of_ble_eq_true rfl) ?_
    refine sp_115 hH hI.2.2 hI.1 (fun A1 f1 f2 f3 => ?_)
    have hI2 : MI (sCut s v) (mset A1 1 2 v) := by
      refine ⟨hI.1, MB_keep hI.2.1 (fun j _ _ => by rw [mset_other (by decide)]; exact f2 j (by omega)) (fun c _ _ => by rw [mset_other (by omega)]; exact f1 c (by omega) (by omega)), ?_, ?_, ?_, ?_, ?_, fun k hk => ?_⟩
      · rw [mset_ne (by decide), f1 1 (by decide) (by decide)]; exact hI.2.2.1
      · rw [mset_ne (by decide), f1 1 (by decide) (by decide)]; exact hI.2.2.2.1
      · rw [mset_at]; rfl
      · rw [mset_ne (by decide), f1 1 (by decide) (by decide)]; exact hI.2.2.2.2.2.1
      · rw [mset_ne (by decide), f1 1 (by decide) (by decide)]; exact hI.2.2.2.2.2.2.1
      · rw [mset_ne (by omega), f1 1 (by decide) (by decide)]; exact hI.2.2.2.2.2.2.2 k hk
    refine pm_aload_n (i := 0) d132_28 rfl rfl ?_
    refine pm_getR d132_29 lf_11_7 rfl rfl ?_
    refine pm_iconst (v := nI 2) d132_32 (by decide) ?_
    refine pm_iload_n (i := 1) d132_33 rfl rfl ?_
    refine pm_iastN d132_34 rfl (by decide) (by omega) ?_
    refine pm_aload_n (i := 0) d132_35 rfl rfl ?_
    refine pm_callV (k2 := 131) (As := []) d132_36 lk_11_144 ok_131 rfl rfl rfl (Nat.le_of_ble_eq_true rfl) rfl rfl rfl rfl rfl ⟨Nat.le_of_ble_eq_true rfl, Nat.le_of_ble_eq_true rfl⟩ (Nat.le_of_ble_eq_true rfl) ?_
    refine sp_131 hI2 ?_
    refine pm_iret d132_39 rfl (by first | rfl | exact nar_b _) ?_
    exact h _ (MW_mk hI2.1 hI2.2.1 hI2.2.2 (fun q hq => by rw [mset_other (by decide), f1 14 (by decide) (by decide)]; exact hL q hq) (MHi_keep f3 (by rw [mset_other (by decide)]) (by rw [mset_other (by decide)])) (MTx_keep hT (by rw [mset_other (by decide), f2 4 (by decide)]) (by rw [mset_other (by decide), f1 3 (by decide) (by decide)])) hX)
  · rw [if_neg (by rw [c_17]; decide)] at h 
    refine pm_sipush (v := -1001) d132_20 (by decide) ?_
    refine pm_iret d132_23 rfl (by first | rfl | exact nar_b _) ?_
    exact h A hC
theorem pd_116 {σ : Sig} {A : Mem} {Q : Int32 → Mem → Prop} (hC : MW σ A) (h : ∀ A2, MW (aUndo σ).2 A2 → Q (aUndo σ).1 A2) : pm_P 116 0 [(0, .ref 0)] [] A Q := by
  obtain ⟨s, H, x⟩ := σ
  obtain ⟨hI, hL, hH, hT, hX⟩ := id hC
  dsimp only at hI hL hH hT hX
  unfold aUndo at h
  dsimp only at h
  have h6 := hH.1
  by_cases h0 : H.1 = 0
  · rw [if_pos h0] at h
    refine pm_aload_n (i := 0) d116_0 rfl rfl ?_
    refine pm_getE d116_1 lf_11_72 rfl rfl (hH.2.1) ?_
    first | refine pm_if_neB (tgt := 11) d116_4 rfl (fun c_4 => ?_) (fun c_4 => ?_) | refine pm_if_neN (tgt := 11) d116_4 rfl (by omega) (fun c_4 => ?_) (fun c_4 => ?_) | refine pm_if_ne (tgt := 11) d116_4 rfl (fun c_4 => ?_) (fun c_4 => ?_)
    · omega
    · refine pm_sipush (v := -1002) d116_7 (by decide) ?_
      refine pm_iret d116_10 rfl (by first | rfl | exact nar_b _) ?_
      exact h A hC
  · rw [if_neg h0] at h
    obtain ⟨q1, q2⟩ := hH.2.2 (H.1 - 1) (by omega)
    have lp : ∀ i, i ≤ 437 → ∀ A1 : Mem, (∀ c, c ≠ 0 → c ≠ 1 → A1 c = A c) → (∀ j, j ≠ 2 → A1 0 j = A 0 j) → A1 0 2 = nI (H.1 - 1) → (∀ k, k < i → A1 1 k = A 2 (437 * (H.1 - 1) + k)) → pm_P 116 23 [(0, .ref 0), (1, .int (nI i))] [] A1 Q := by
      refine up_ind (fun i hi9 ih A1 g1 g0 g2 g3 => ?_)
      have hSM : i = 437 → SM 1 0 (H.2 (H.1 - 1)) A1 := fun e => SM_copy q1 (fun k hk => by rw [Nat.zero_add]; exact g3 k (by omega))
      refine pm_iload_n (i := 1) d116_23 rfl rfl ?_
      refine pm_sipush (v := nI 437) d116_24 (by decide) ?_
      first | refine pm_icmp_geN (tgt := 57) d116_27 rfl (by omega) (by omega) (fun c_27 => ?_) (fun c_27 => ?_) | refine pm_icmp_ge (tgt := 57) d116_27 rfl (fun c_27 => ?_) (fun c_27 => ?_)
      · refine pm_aload_n (i := 0) d116_57 rfl rfl ?_
        refine pm_callVv (k2 := 126) (As := []) d116_58 lk_11_69 ok_126 rfl rfl rfl (Nat.le_of_ble_eq_true rfl) rfl rfl rfl rfl rfl ⟨Nat.le_of_ble_eq_true rfl, Nat.le_of_ble_eq_true rfl⟩ (Nat.le_of_ble_eq_true rfl) ?_
        refine sp_126 (g := sF s) q2.1 q2.2.1 q2.2.2.2.1 (by have := hI.1.2.1; omega) (hSM (by omega)).1 (hSM (by omega)).2.1 (by rw [g0 5 (by decide)]; exact hI.2.1.1) (fun q => by rw [← q]; exact MB_keep hI.2.1 (fun j _ _ => g0 j (by omega)) (fun c _ _ => g1 c (by omega) (by omega))) (fun A3 k1 k2 k3 k4 => ?_)
        refine pm_aload_n (i := 0) d116_61 rfl rfl ?_
        refine pm_getE (v := nI (H.1 - 1)) d116_62 lf_11_72 rfl rfl (by rw [k2 2 (by omega), g2]) ?_
        refine pm_iret d116_65 rfl (by first | rfl | exact nar_b _) ?_
        refine h A3 (MW_mk q2 k3 (SM_keep (hSM (by omega)) (k1 1 (by decide) (by omega))) k4 ⟨by show H.1 - 1 ≤ 6; omega, by rw [k2 2 (by omega)]; exact g2, fun j hj => ?_⟩ (MTx_keep hT (by rw [k2 4 (by omega)]; exact g0 4 (by decide)) (by rw [k1 3 (by decide) (by omega)]; exact g1 3 (by decide) (by decide))) hX)
        obtain ⟨a1, a2⟩ := hH.2.2 j (by dsimp only at hj; omega)
        exact ⟨SM_keep a1 (by rw [k1 2 (by decide) (by omega)]; exact g1 2 (by decide) (by decide)), a2⟩
      · refine pm_aload_n (i := 0) d116_30 rfl rfl ?_
        refine pm_getR d116_31 lf_11_7 rfl rfl ?_
        refine pm_iload_n (i := 1) d116_34 rfl rfl ?_
        refine pm_aload_n (i := 0) d116_35 rfl rfl ?_
        refine pm_getR d116_36 lf_11_13 rfl rfl ?_
        refine pm_sipush (v := nI 437) d116_39 (by decide) ?_
        refine pm_aload_n (i := 0) d116_42 rfl rfl ?_
        refine pm_getE (v := nI (H.1 - 1)) d116_43 lf_11_72 rfl rfl (g2) ?_
        first | refine pm_imulN d116_46 ?_ | refine pm_imul d116_46 ?_
        refine pm_iload_n (i := 1) d116_47 rfl rfl ?_
        first | refine pm_iaddN d116_48 ?_ | refine pm_iadd d116_48 ?_
        refine pm_ialdN d116_49 rfl (by decide) (by omega) ?_
        rw [g1 2 (by decide) (by decide)]
        refine pm_iastN d116_50 rfl (by decide) (by omega) ?_
        first | refine pm_iincN 1 (L2 := [(0, _), (1, _)]) d116_51 rfl (by decide) rfl ?_ | refine pm_iinc (L2 := [(0, _), (1, _)]) d116_51 rfl rfl (by decide) rfl ?_
        refine pm_goto (tgt := 23) d116_54 rfl ?_
        refine ih c_27 _ (fun c c1 c2 => by rw [mset_other c2]; exact g1 c c1 c2) (fun j hj => by rw [mset_other (by decide)]; exact g0 j hj) (by rw [mset_other (by decide)]; exact g2) (fun k hk => ?_)
        by_cases e : k = i
        · rw [e, mset_at]
        · rw [mset_ne e]; exact g3 k (by omega)
    refine pm_aload_n (i := 0) d116_0 rfl rfl ?_
    refine pm_getE d116_1 lf_11_72 rfl rfl (hH.2.1) ?_
    first | refine pm_if_neB (tgt := 11) d116_4 rfl (fun c_4 => ?_) (fun c_4 => ?_) | refine pm_if_neN (tgt := 11) d116_4 rfl (by omega) (fun c_4 => ?_) (fun c_4 => ?_) | refine pm_if_ne (tgt := 11) d116_4 rfl (fun c_4 => ?_) (fun c_4 => ?_)
    · refine pm_aload_n (i := 0) d116_11 rfl rfl ?_
      refine pm_dup d116_12 rfl ?_
      refine pm_getE d116_13 lf_11_72 rfl rfl (hH.2.1) ?_
      refine pm_iconst (v := nI 1) d116_16 (by decide) ?_
      first | refine pm_isubN d116_17 (by omega) ?_ | refine pm_isub d116_17 ?_
      refine pm_putI d116_18 lp_11_72 rfl rfl ?_
      refine pm_iconst (v := nI 0) d116_21 (by decide) ?_
      refine pm_istore_n (i := 1) (L2 := [(0, _), (1, _)]) d116_22 rfl (by decide) rfl ?_
      exact lp 0 (Nat.zero_le _) _ (fun c c1 _ => by rw [mset_other c1]) (fun j hj => by rw [mset_ne hj]) (by rw [mset_at]) (fun k hk => absurd hk (Nat.not_lt_zero k))
    · omega
theorem cnt_ext {p : Nat → Bool} {n m : Nat} (h : ∀ i, p i = true → i < n) (hnm : n ≤ m) : cnt p m = cnt p n := by
  obtain ⟨d, rfl⟩ : ∃ d, m = n + d := ⟨m - n, by omega⟩
  clear hnm
  induction d with
  | zero => rfl
  | succ d ih =>
    have e : p (n + d) = false := by
      cases e : p (n + d) with
      | false => rfl
      | true => have := h _ e; omega
    rw [← Nat.add_assoc, cnt_f e, ih]
theorem sp_140_2 {s : Stt} {A : Mem} {Q : Int32 → Mem → Prop} (hI : MI s A) (h : Q (nI (cnt (sM s) 432)) A) : pm_P 140 0 [(0, .ref 0), (1, .int (nI 2))] [] A Q := by
  have hb := MI_bd hI
  refine sp_140 (w := 2) hI (by decide) ?_
  rw [cnt_congr (p := fun k => (Nat.beq 2 2 || ks s k) && (Nat.beq 2 0 || sM s k)) (q := sM s) (fun k _ => by show ((true || ks s k) && (false || sM s k)) = sM s k; rw [Bool.true_or, Bool.true_and, Bool.false_or])]
  rw [← cnt_ext (m := 432) hI.1.2.2.2.2.2.2.2.1 hb.2.1]
  exact h
theorem pd_165 {σ : Sig} {A : Mem} {Q : Int32 → Mem → Prop} (hC : MW σ A) (h : ∀ A2, MW (aMend σ).2 A2 → Q (aMend σ).1 A2) : pm_P 165 0 [(0, .ref 0)] [] A Q := by
  obtain ⟨s, H, x⟩ := σ
  obtain ⟨hI, hL, hH, hT, hX⟩ := id hC
  dsimp only at hI hL hH hT hX
  unfold aMend at h
  dsimp only at h
  refine pm_aload_n (i := 0) d165_0 rfl rfl ?_
  refine pm_callVv (k2 := 115) (As := []) d165_1 lk_11_134 ok_115 rfl rfl rfl (Nat.le_of_ble_eq_true rfl) rfl rfl rfl rfl rfl ⟨Nat.le_of_ble_eq_true rfl, Nat.le_of_ble_eq_true rfl⟩ (Nat.le_of_ble_eq_true rfl) ?_
  refine sp_115 hH hI.2.2 hI.1 (fun A1 f1 f2 f3 => ?_)
  have hI1 : MI s A1 := MI_keep hI (fun j _ _ => f2 j (by omega)) (fun c _ _ => f1 c (by omega) (by omega)) (f1 1 (by decide) (by decide))
  refine pm_aload_n (i := 0) d165_4 rfl rfl ?_
  refine pm_iconst (v := nI 2) d165_5 (by decide) ?_
  refine pm_callV (k2 := 140) (As := [_]) d165_6 lk_11_175 ok_140 rfl rfl rfl (Nat.le_of_ble_eq_true rfl) rfl rfl rfl rfl rfl ⟨Nat.le_of_ble_eq_true rfl, Nat.le_of_ble_eq_true rfl⟩ (Nat.le_of_ble_eq_true rfl) ?_
  refine sp_140_2 hI1 ?_
  refine pm_istore_n (i := 1) (L2 := [(0, _), (1, _)]) d165_9 rfl (by decide) rfl ?_
  refine pm_aload_n (i := 0) d165_10 rfl rfl ?_
  refine pm_callVv (k2 := 164) (As := []) d165_11 lk_11_137 ok_164 rfl rfl rfl (Nat.le_of_ble_eq_true rfl) rfl rfl rfl rfl rfl ⟨Nat.le_of_ble_eq_true rfl, Nat.le_of_ble_eq_true rfl⟩ (Nat.le_of_ble_eq_true rfl) ?_
  refine sp_164 (fun A2 g1 g2 g3 => ?_)
  refine pm_iload_n (i := 1) d165_14 rfl rfl ?_
  refine pm_iret d165_15 rfl (by first | rfl | exact nar_b _) ?_
  refine h A2 (MW_mk ⟨hI.1.1, hI.1.2.1, hI.1.2.2.1, hI.1.2.2.2.1, hI.1.2.2.2.2.1, hI.1.2.2.2.2.2.1, hI.1.2.2.2.2.2.2.1, none_ok (sF s)⟩ (MB_keep hI1.2.1 (fun j _ _ => by rw [g1 0 (by decide)]) (fun c _ _ => g1 c (by omega))) ⟨?_, ?_, ?_, ?_, ?_, fun k hk => ?_⟩ (fun q hq => by rw [g1 14 (by decide), f1 14 (by decide) (by decide)]; exact hL q hq) (MHi_keep f3 (by rw [g1 0 (by decide)]) (g1 2 (by decide))) (MTx_keep hT (by rw [g1 0 (by decide), f2 4 (by decide)]) (by rw [g1 3 (by decide), f1 3 (by decide) (by decide)])) hX)
  · rw [g2 _ (by omega)]; exact hI1.2.2.1
  · rw [g2 _ (by omega)]; exact hI1.2.2.2.1
  · rw [g2 _ (by omega)]; exact hI1.2.2.2.2.1
  · rw [g2 _ (by omega)]; exact hI1.2.2.2.2.2.1
  · rw [g2 _ (by omega)]; exact hI1.2.2.2.2.2.2.1
  · rw [Nat.zero_add, g3 k hk]; rfl
theorem SM_set {s : Stt} {k : Nat} {b : Bool} {A : Mem} (h : SM 1 0 s A) (hk : k < 432) : SM 1 0 (sSet s k b) (mset A 1 (5 + k) (b2i b)) := by
  refine ⟨?_, ?_, ?_, ?_, ?_, fun i hi9 => ?_⟩
  · rw [mset_ne (by omega)]; exact h.1
  · rw [mset_ne (by omega)]; exact h.2.1
  · rw [mset_ne (by omega)]; exact h.2.2.1
  · rw [mset_ne (by omega)]; exact h.2.2.2.1
  · rw [mset_ne (by omega)]; exact h.2.2.2.2.1
  · show mset A 1 (5 + k) (b2i b) 1 (0 + 5 + i) = b2i (uN (sM s) k b i)
    by_cases e : i = k
    · rw [e, uN_at, show 0 + 5 + k = 5 + k by omega, mset_at]
    · rw [mset_ne (by omega), uN_ne e]
      exact h.2.2.2.2.2 i hi9
theorem pd_162 {σ : Sig} {u : Int32} {A : Mem} {Q : Int32 → Mem → Prop} (hC : MW σ A) (h : ∀ A2, MW (aLose σ u).2 A2 → Q (aLose σ u).1 A2) : pm_P 162 0 [(0, .ref 0), (1, .int u)] [] A Q := by
  obtain ⟨s, H, x⟩ := σ
  obtain ⟨hI, hL, hH, hT, hX⟩ := id hC
  dsimp only at hI hL hH hT hX
  have hb := MI_bd hI
  have hcl := cnt_le (sM s) 432
  have h40 := hI.1.2.2.2.2.2.2.2.2
  unfold aLose at h
  dsimp only at h
  refine pm_aload_n (i := 0) d162_0 rfl rfl ?_
  refine pm_iload_n (i := 1) d162_1 rfl rfl ?_
  refine pm_callV (k2 := 155) (As := [_]) d162_2 lk_11_208 ok_155 rfl rfl rfl (Nat.le_of_ble_eq_true rfl) rfl rfl rfl rfl rfl ⟨Nat.le_of_ble_eq_true rfl, Nat.le_of_ble_eq_true rfl⟩ (Nat.le_of_ble_eq_true rfl) ?_
  refine sp_155 hI ?_
  first | refine pm_if_neB (tgt := 12) d162_5 rfl (fun c_5 => ?_) (fun c_5 => ?_) | refine pm_if_neN (tgt := 12) d162_5 rfl (by omega) (fun c_5 => ?_) (fun c_5 => ?_) | refine pm_if_ne (tgt := 12) d162_5 rfl (fun c_5 => ?_) (fun c_5 => ?_)
  · obtain ⟨k, hk, rfl⟩ := inN_of (by omega) (by omega) c_5
    rw [if_pos c_5, nI_clamp (by omega)] at h 
    refine pm_aload_n (i := 0) d162_12 rfl rfl ?_
    refine pm_iload_n (i := 1) d162_13 rfl rfl ?_
    refine pm_callV (k2 := 135) (As := [_]) d162_14 lk_11_163 ok_135 rfl rfl rfl (Nat.le_of_ble_eq_true rfl) rfl rfl rfl rfl rfl ⟨Nat.le_of_ble_eq_true rfl, Nat.le_of_ble_eq_true rfl⟩ (Nat.le_of_ble_eq_true rfl) ?_
    refine sp_135 hI (by omega) ?_
    first | refine pm_if_eqB (tgt := 24) d162_17 rfl (fun c_17 => ?_) (fun c_17 => ?_) | refine pm_if_eqN (tgt := 24) d162_17 rfl (by omega) (fun c_17 => ?_) (fun c_17 => ?_) | refine pm_if_eq (tgt := 24) d162_17 rfl (fun c_17 => ?_) (fun c_17 => ?_)
    · rw [if_neg (by rw [c_17]; decide)] at h 
      refine pm_aload_n (i := 0) d162_24 rfl rfl ?_
      refine pm_iconst (v := nI 2) d162_25 (by decide) ?_
      refine pm_callV (k2 := 140) (As := [_]) d162_26 lk_11_175 ok_140 rfl rfl rfl (Nat.le_of_ble_eq_true rfl) rfl rfl rfl rfl rfl ⟨Nat.le_of_ble_eq_true rfl, Nat.le_of_ble_eq_true rfl⟩ (Nat.le_of_ble_eq_true rfl) ?_
      refine sp_140_2 hI ?_
      refine pm_bipush (v := nI 40) d162_29 (by decide) ?_
      first | refine pm_icmp_neN (tgt := 38) d162_31 rfl (by omega) (by omega) (fun c_31 => ?_) (fun c_31 => ?_) | refine pm_icmp_ne (tgt := 38) d162_31 rfl (fun c_31 => ?_) (fun c_31 => ?_)
      · rw [if_neg (by omega)] at h 
        refine pm_aload_n (i := 0) d162_38 rfl rfl ?_
        refine pm_callVv (k2 := 115) (As := []) d162_39 lk_11_134 ok_115 rfl rfl rfl (Nat.le_of_ble_eq_true rfl) rfl rfl rfl rfl rfl ⟨Nat.le_of_ble_eq_true rfl, Nat.le_of_ble_eq_true rfl⟩ (Nat.le_of_ble_eq_true rfl) ?_
        refine sp_115 hH hI.2.2 hI.1 (fun A1 f1 f2 f3 => ?_)
        have hI1 : MI s A1 := MI_keep hI (fun j _ _ => f2 j (by omega)) (fun c _ _ => f1 c (by omega) (by omega)) (f1 1 (by decide) (by decide))
        refine pm_aload_n (i := 0) d162_42 rfl rfl ?_
        refine pm_iload_n (i := 1) d162_43 rfl rfl ?_
        refine pm_callV (k2 := 161) (As := [_]) d162_44 lk_11_214 ok_161 rfl rfl rfl (Nat.le_of_ble_eq_true rfl) rfl rfl rfl rfl rfl ⟨Nat.le_of_ble_eq_true rfl, Nat.le_of_ble_eq_true rfl⟩ (Nat.le_of_ble_eq_true rfl) ?_
        refine sp_161 hI1 hk ?_
        refine pm_istore_n (i := 2) (L2 := [(0, _), (1, _), (2, _)]) d162_47 rfl (by decide) rfl ?_
        refine pm_aload_n (i := 0) d162_48 rfl rfl ?_
        refine pm_getR d162_49 lf_11_7 rfl rfl ?_
        refine pm_iconst (v := nI 5) d162_52 (by decide) ?_
        refine pm_iload_n (i := 1) d162_53 rfl rfl ?_
        first | refine pm_iaddN d162_54 ?_ | refine pm_iadd d162_54 ?_
        refine pm_iconst (v := nI 1) d162_55 (by decide) ?_
        refine pm_iastN d162_56 rfl (by decide) (by omega) ?_
        refine pm_iload_n (i := 2) d162_57 rfl rfl ?_
        refine pm_iret d162_58 rfl (by first | rfl | exact nar_b _) ?_
        have hcs : cnt (uN (sM s) k true) 432 = cnt (sM s) 432 + 1 := cnt_set (show k < 432 by omega) c_17 (uN_at _ _ _) (fun i _ e => (uN_ne e).symm)
        refine h _ (MW_mk (sSet_ok hI.1 hk (by omega)) (MB_keep hI1.2.1 (fun j _ _ => by rw [mset_other (by decide)]) (fun c _ _ => by rw [mset_other (by omega)])) (SM_set (b := true) hI1.2.2 (by omega)) (fun q hq => by rw [mset_other (by decide), f1 14 (by decide) (by decide)]; exact hL q hq) (MHi_keep f3 (by rw [mset_other (by decide)]) (by rw [mset_other (by decide)])) (MTx_keep hT (by rw [mset_other (by decide), f2 4 (by decide)]) (by rw [mset_other (by decide), f1 3 (by decide) (by decide)])) hX)
      · rw [if_pos (by omega)] at h 
        refine pm_sipush (v := -1003) d162_34 (by decide) ?_
        refine pm_iret d162_37 rfl (by first | rfl | exact nar_b _) ?_
        exact h A hC
    · rw [if_pos c_17] at h 
      refine pm_sipush (v := -1002) d162_20 (by decide) ?_
      refine pm_iret d162_23 rfl (by first | rfl | exact nar_b _) ?_
      exact h A hC
  · rw [if_neg (by rw [c_5]; decide)] at h 
    refine pm_sipush (v := -1001) d162_8 (by decide) ?_
    refine pm_iret d162_11 rfl (by first | rfl | exact nar_b _) ?_
    exact h A hC
theorem pd_163 {σ : Sig} {u : Int32} {A : Mem} {Q : Int32 → Mem → Prop} (hC : MW σ A) (h : ∀ A2, MW (aPut σ u).2 A2 → Q (aPut σ u).1 A2) : pm_P 163 0 [(0, .ref 0), (1, .int u)] [] A Q := by
  obtain ⟨s, H, x⟩ := σ
  obtain ⟨hI, hL, hH, hT, hX⟩ := id hC
  dsimp only at hI hL hH hT hX
  have hb := MI_bd hI
  have hcl := cnt_le (sM s) 432
  have h40 := hI.1.2.2.2.2.2.2.2.2
  unfold aPut at h
  dsimp only at h
  refine pm_aload_n (i := 0) d163_0 rfl rfl ?_
  refine pm_iload_n (i := 1) d163_1 rfl rfl ?_
  refine pm_callV (k2 := 155) (As := [_]) d163_2 lk_11_208 ok_155 rfl rfl rfl (Nat.le_of_ble_eq_true rfl) rfl rfl rfl rfl rfl ⟨Nat.le_of_ble_eq_true rfl, Nat.le_of_ble_eq_true rfl⟩ (Nat.le_of_ble_eq_true rfl) ?_
  refine sp_155 hI ?_
  first | refine pm_if_neB (tgt := 12) d163_5 rfl (fun c_5 => ?_) (fun c_5 => ?_) | refine pm_if_neN (tgt := 12) d163_5 rfl (by omega) (fun c_5 => ?_) (fun c_5 => ?_) | refine pm_if_ne (tgt := 12) d163_5 rfl (fun c_5 => ?_) (fun c_5 => ?_)
  · obtain ⟨k, hk, rfl⟩ := inN_of (by omega) (by omega) c_5
    rw [if_pos c_5, nI_clamp (by omega)] at h 
    refine pm_aload_n (i := 0) d163_12 rfl rfl ?_
    refine pm_iload_n (i := 1) d163_13 rfl rfl ?_
    refine pm_callV (k2 := 135) (As := [_]) d163_14 lk_11_163 ok_135 rfl rfl rfl (Nat.le_of_ble_eq_true rfl) rfl rfl rfl rfl rfl ⟨Nat.le_of_ble_eq_true rfl, Nat.le_of_ble_eq_true rfl⟩ (Nat.le_of_ble_eq_true rfl) ?_
    refine sp_135 hI (by omega) ?_
    first | refine pm_if_neB (tgt := 24) d163_17 rfl (fun c_17 => ?_) (fun c_17 => ?_) | refine pm_if_neN (tgt := 24) d163_17 rfl (by omega) (fun c_17 => ?_) (fun c_17 => ?_) | refine pm_if_ne (tgt := 24) d163_17 rfl (fun c_17 => ?_) (fun c_17 => ?_)
    · rw [if_pos c_17] at h
      have hcs : cnt (sM s) 432 = cnt (uN (sM s) k false) 432 + 1 := cnt_set (show k < 432 by omega) (uN_at _ _ _) c_17 (fun i _ e => uN_ne e) 
      refine pm_aload_n (i := 0) d163_24 rfl rfl ?_
      refine pm_callVv (k2 := 115) (As := []) d163_25 lk_11_134 ok_115 rfl rfl rfl (Nat.le_of_ble_eq_true rfl) rfl rfl rfl rfl rfl ⟨Nat.le_of_ble_eq_true rfl, Nat.le_of_ble_eq_true rfl⟩ (Nat.le_of_ble_eq_true rfl) ?_
      refine sp_115 hH hI.2.2 hI.1 (fun A1 f1 f2 f3 => ?_)
      have hI1 : MI s A1 := MI_keep hI (fun j _ _ => f2 j (by omega)) (fun c _ _ => f1 c (by omega) (by omega)) (f1 1 (by decide) (by decide))
      have hI2 : MI (sSet s k false) (mset A1 1 (5 + k) (nI 0)) := ⟨sSet_ok hI.1 hk (by omega), MB_keep hI1.2.1 (fun j _ _ => by rw [mset_other (by decide)]) (fun c _ _ => by rw [mset_other (by omega)]), SM_set (b := false) hI1.2.2 (by omega)⟩
      refine pm_aload_n (i := 0) d163_28 rfl rfl ?_
      refine pm_getR d163_29 lf_11_7 rfl rfl ?_
      refine pm_iconst (v := nI 5) d163_32 (by decide) ?_
      refine pm_iload_n (i := 1) d163_33 rfl rfl ?_
      first | refine pm_iaddN d163_34 ?_ | refine pm_iadd d163_34 ?_
      refine pm_iconst (v := nI 0) d163_35 (by decide) ?_
      refine pm_iastN d163_36 rfl (by decide) (by omega) ?_
      refine pm_aload_n (i := 0) d163_37 rfl rfl ?_
      refine pm_iload_n (i := 1) d163_38 rfl rfl ?_
      refine pm_callV (k2 := 161) (As := [_]) d163_39 lk_11_214 ok_161 rfl rfl rfl (Nat.le_of_ble_eq_true rfl) rfl rfl rfl rfl rfl ⟨Nat.le_of_ble_eq_true rfl, Nat.le_of_ble_eq_true rfl⟩ (Nat.le_of_ble_eq_true rfl) ?_
      refine sp_161 hI2 hk ?_
      refine pm_iret d163_42 rfl (by first | rfl | exact nar_b _) ?_
      refine h _ (MW_mk hI2.1 hI2.2.1 hI2.2.2 (fun q hq => by rw [mset_other (by decide), f1 14 (by decide) (by decide)]; exact hL q hq) (MHi_keep f3 (by rw [mset_other (by decide)]) (by rw [mset_other (by decide)])) (MTx_keep hT (by rw [mset_other (by decide), f2 4 (by decide)]) (by rw [mset_other (by decide), f1 3 (by decide) (by decide)])) hX)
    · rw [if_neg (by rw [c_17]; decide)] at h 
      refine pm_sipush (v := -1002) d163_20 (by decide) ?_
      refine pm_iret d163_23 rfl (by first | rfl | exact nar_b _) ?_
      exact h A hC
  · rw [if_neg (by rw [c_5]; decide)] at h 
    refine pm_sipush (v := -1001) d163_8 (by decide) ?_
    refine pm_iret d163_11 rfl (by first | rfl | exact nar_b _) ?_
    exact h A hC
/-- the most that the worst strut so far closes; -1 -/
def wsN (s : Stt) : Option Nat → Int32
  | none => -1
  | some w => nI (clo s w)
theorem pd_166 {σ : Sig} {A : Mem} {Q : Int32 → Mem → Prop} (hC : MW σ A) (h : ∀ A2, MW σ A2 → Q (aWorst σ.1) A2) : pm_P 166 0 [(0, .ref 0)] [] A Q := by
  obtain ⟨s, H, x⟩ := σ
  have hI : MI s A := hC.1
  have hb := MI_bd hI
  have hcl : ∀ i, clo s i ≤ nf (sF s) := fun i => cnt_le _ _
  have hh := h A hC
  unfold aWorst at hh
  dsimp only at hh
  have lp : ∀ i, i ≤ ns (sF s) → pm_P 166 8 [(0, .ref 0), (1, .int (opI (-1004) (wst s i))), (2, .int (wsN s (wst s i))), (3, .int (nI i))] [] A Q := by
    refine up_ind (fun i hi9 ih => ?_)
    by_cases hlt : i < ns (sF s)
    · have ih := ih hlt
      simp only [wst] at ih
      have d1 := hcl i
      cases hw : wst s i with
      | none =>
        rw [hw] at ih
        rw [show wsN s none = -1 from rfl, show opI (-1004) none = -1004 from rfl]
        refine pm_iload_n (i := 3) d166_8 rfl rfl ?_
        refine pm_aload_n (i := 0) d166_9 rfl rfl ?_
        refine pm_getE d166_10 lf_11_90 rfl rfl (MI_ns hI) ?_
        first | refine pm_icmp_geN (tgt := 70) d166_13 rfl (by omega) (by omega) (fun c_13 => ?_) (fun c_13 => ?_) | refine pm_icmp_ge (tgt := 70) d166_13 rfl (fun c_13 => ?_) (fun c_13 => ?_)
        · omega
        · refine pm_aload_n (i := 0) d166_16 rfl rfl ?_
          refine pm_iload_n (i := 3) d166_17 rfl rfl ?_
          refine pm_callV (k2 := 134) (As := [_]) d166_18 lk_11_166 ok_134 rfl rfl rfl (Nat.le_of_ble_eq_true rfl) rfl rfl rfl rfl rfl ⟨Nat.le_of_ble_eq_true rfl, Nat.le_of_ble_eq_true rfl⟩ (Nat.le_of_ble_eq_true rfl) ?_
          refine sp_134 hI hlt ?_
          first | refine pm_if_eqB (tgt := 64) d166_21 rfl (fun c_21 => ?_) (fun c_21 => ?_) | refine pm_if_eqN (tgt := 64) d166_21 rfl (by omega) (fun c_21 => ?_) (fun c_21 => ?_) | refine pm_if_eq (tgt := 64) d166_21 rfl (fun c_21 => ?_) (fun c_21 => ?_)
          · first | refine pm_iincN 1 (L2 := [(0, _), (1, _), (2, _), (3, _)]) d166_64 rfl (by decide) rfl ?_ | refine pm_iinc (L2 := [(0, _), (1, _), (2, _), (3, _)]) d166_64 rfl rfl (by decide) rfl ?_
            refine pm_goto (tgt := 8) d166_67 rfl ?_
            rw [if_neg (by first | simp [c_21, c_29] | simp [c_21])] at ih
            exact ih
          · refine pm_aload_n (i := 0) d166_24 rfl rfl ?_
            refine pm_iload_n (i := 3) d166_25 rfl rfl ?_
            refine pm_callV (k2 := 135) (As := [_]) d166_26 lk_11_163 ok_135 rfl rfl rfl (Nat.le_of_ble_eq_true rfl) rfl rfl rfl rfl rfl ⟨Nat.le_of_ble_eq_true rfl, Nat.le_of_ble_eq_true rfl⟩ (Nat.le_of_ble_eq_true rfl) ?_
            refine sp_135 hI (by omega) ?_
            first | refine pm_if_neB (tgt := 64) d166_29 rfl (fun c_29 => ?_) (fun c_29 => ?_) | refine pm_if_neN (tgt := 64) d166_29 rfl (by omega) (fun c_29 => ?_) (fun c_29 => ?_) | refine pm_if_ne (tgt := 64) d166_29 rfl (fun c_29 => ?_) (fun c_29 => ?_)
            · first | refine pm_iincN 1 (L2 := [(0, _), (1, _), (2, _), (3, _)]) d166_64 rfl (by decide) rfl ?_ | refine pm_iinc (L2 := [(0, _), (1, _), (2, _), (3, _)]) d166_64 rfl rfl (by decide) rfl ?_
              refine pm_goto (tgt := 8) d166_67 rfl ?_
              rw [if_neg (by first | simp [c_21, c_29] | simp [c_21])] at ih
              exact ih
            · refine pm_aload_n (i := 0) d166_32 rfl rfl ?_
              refine pm_iload_n (i := 3) d166_33 rfl rfl ?_
              refine pm_callV (k2 := 161) (As := [_]) d166_34 lk_11_214 ok_161 rfl rfl rfl (Nat.le_of_ble_eq_true rfl) rfl rfl rfl rfl rfl ⟨Nat.le_of_ble_eq_true rfl, Nat.le_of_ble_eq_true rfl⟩ (Nat.le_of_ble_eq_true rfl) ?_
              refine sp_161 hI hlt ?_
              refine pm_istore (L2 := [(0, _), (1, _), (2, _), (3, _), (4, _)]) d166_37 (by decide) rfl ?_
              refine pm_iload d166_39 rfl ?_
              refine pm_iload_n (i := 2) d166_41 rfl rfl ?_
              refine pm_icmp_le (tgt := 49) d166_42 rfl (fun c_42 => ?_) (fun c_42 => ?_)
              · exact absurd c_42 (by intro q; have h1 := Int32.le_iff_toInt_le.mp q; rw [nI_toInt (by omega), show Int32.toInt (-1) = -1 from by decide] at h1; omega)
              · refine pm_iload_n (i := 3) d166_45 rfl rfl ?_
                refine pm_goto (tgt := 50) d166_46 rfl ?_
                refine pm_istore_n (i := 1) (L2 := [(0, _), (1, _), (2, _), (3, _), (4, _)]) d166_50 rfl (by decide) rfl ?_
                refine pm_iload d166_51 rfl ?_
                refine pm_iload_n (i := 2) d166_53 rfl rfl ?_
                refine pm_icmp_le (tgt := 62) d166_54 rfl (fun c_54 => ?_) (fun c_54 => ?_)
                · exact absurd c_54 c_42
                · refine pm_iload d166_57 rfl ?_
                  refine pm_goto (tgt := 63) d166_59 rfl ?_
                  refine pm_istore_n (i := 2) (L2 := [(0, _), (1, _), (2, _), (3, _), (4, _)]) d166_63 rfl (by decide) rfl ?_
                  first | refine pm_iincN 1 (L2 := [(0, _), (1, _), (2, _), (3, _), (4, _)]) d166_64 rfl (by decide) rfl ?_ | refine pm_iinc (L2 := [(0, _), (1, _), (2, _), (3, _), (4, _)]) d166_64 rfl rfl (by decide) rfl ?_
                  refine pm_goto (tgt := 8) d166_67 rfl ?_
                  refine pm_pick [0, 1, 2, 3] (L2 := [(0, _), (1, _), (2, _), (3, _)]) rfl ?_
                  rw [if_pos (by rw [c_21, c_29]; rfl)] at ih
                  exact ih
      | some w =>
        rw [hw] at ih
        have hwl := wst_lt i w hw
        have d2 := hcl w
        dsimp only at ih
        rw [show wsN s (some w) = nI (clo s w) from rfl, show opI (-1004) (some w) = nI w from rfl]
        refine pm_iload_n (i := 3) d166_8 rfl rfl ?_
        refine pm_aload_n (i := 0) d166_9 rfl rfl ?_
        refine pm_getE d166_10 lf_11_90 rfl rfl (MI_ns hI) ?_
        first | refine pm_icmp_geN (tgt := 70) d166_13 rfl (by omega) (by omega) (fun c_13 => ?_) (fun c_13 => ?_) | refine pm_icmp_ge (tgt := 70) d166_13 rfl (fun c_13 => ?_) (fun c_13 => ?_)
        · omega
        · refine pm_aload_n (i := 0) d166_16 rfl rfl ?_
          refine pm_iload_n (i := 3) d166_17 rfl rfl ?_
          refine pm_callV (k2 := 134) (As := [_]) d166_18 lk_11_166 ok_134 rfl rfl rfl (Nat.le_of_ble_eq_true rfl) rfl rfl rfl rfl rfl ⟨Nat.le_of_ble_eq_true rfl, Nat.le_of_ble_eq_true rfl⟩ (Nat.le_of_ble_eq_true rfl) ?_
          refine sp_134 hI hlt ?_
          first | refine pm_if_eqB (tgt := 64) d166_21 rfl (fun c_21 => ?_) (fun c_21 => ?_) | refine pm_if_eqN (tgt := 64) d166_21 rfl (by omega) (fun c_21 => ?_) (fun c_21 => ?_) | refine pm_if_eq (tgt := 64) d166_21 rfl (fun c_21 => ?_) (fun c_21 => ?_)
          · first | refine pm_iincN 1 (L2 := [(0, _), (1, _), (2, _), (3, _)]) d166_64 rfl (by decide) rfl ?_ | refine pm_iinc (L2 := [(0, _), (1, _), (2, _), (3, _)]) d166_64 rfl rfl (by decide) rfl ?_
            refine pm_goto (tgt := 8) d166_67 rfl ?_
            rw [if_neg (by first | simp [c_21, c_29] | simp [c_21])] at ih
            exact ih
          · refine pm_aload_n (i := 0) d166_24 rfl rfl ?_
            refine pm_iload_n (i := 3) d166_25 rfl rfl ?_
            refine pm_callV (k2 := 135) (As := [_]) d166_26 lk_11_163 ok_135 rfl rfl rfl (Nat.le_of_ble_eq_true rfl) rfl rfl rfl rfl rfl ⟨Nat.le_of_ble_eq_true rfl, Nat.le_of_ble_eq_true rfl⟩ (Nat.le_of_ble_eq_true rfl) ?_
            refine sp_135 hI (by omega) ?_
            first | refine pm_if_neB (tgt := 64) d166_29 rfl (fun c_29 => ?_) (fun c_29 => ?_) | refine pm_if_neN (tgt := 64) d166_29 rfl (by omega) (fun c_29 => ?_) (fun c_29 => ?_) | refine pm_if_ne (tgt := 64) d166_29 rfl (fun c_29 => ?_) (fun c_29 => ?_)
            · first | refine pm_iincN 1 (L2 := [(0, _), (1, _), (2, _), (3, _)]) d166_64 rfl (by decide) rfl ?_ | refine pm_iinc (L2 := [(0, _), (1, _), (2, _), (3, _)]) d166_64 rfl rfl (by decide) rfl ?_
              refine pm_goto (tgt := 8) d166_67 rfl ?_
              rw [if_neg (by first | simp [c_21, c_29] | simp [c_21])] at ih
              exact ih
            · refine pm_aload_n (i := 0) d166_32 rfl rfl ?_
              refine pm_iload_n (i := 3) d166_33 rfl rfl ?_
              refine pm_callV (k2 := 161) (As := [_]) d166_34 lk_11_214 ok_161 rfl rfl rfl (Nat.le_of_ble_eq_true rfl) rfl rfl rfl rfl rfl ⟨Nat.le_of_ble_eq_true rfl, Nat.le_of_ble_eq_true rfl⟩ (Nat.le_of_ble_eq_true rfl) ?_
              refine sp_161 hI hlt ?_
              refine pm_istore (L2 := [(0, _), (1, _), (2, _), (3, _), (4, _)]) d166_37 (by decide) rfl ?_
              refine pm_iload d166_39 rfl ?_
              refine pm_iload_n (i := 2) d166_41 rfl rfl ?_
              first | refine pm_icmp_leN (tgt := 49) d166_42 rfl (by omega) (by omega) (fun c_42 => ?_) (fun c_42 => ?_) | refine pm_icmp_le (tgt := 49) d166_42 rfl (fun c_42 => ?_) (fun c_42 => ?_)
              · refine pm_iload_n (i := 1) d166_49 rfl rfl ?_
                refine pm_istore_n (i := 1) (L2 := [(0, _), (1, _), (2, _), (3, _), (4, _)]) d166_50 rfl (by decide) rfl ?_
                refine pm_iload d166_51 rfl ?_
                refine pm_iload_n (i := 2) d166_53 rfl rfl ?_
                first | refine pm_icmp_leN (tgt := 62) d166_54 rfl (by omega) (by omega) (fun c_54 => ?_) (fun c_54 => ?_) | refine pm_icmp_le (tgt := 62) d166_54 rfl (fun c_54 => ?_) (fun c_54 => ?_)
                · refine pm_iload_n (i := 2) d166_62 rfl rfl ?_
                  refine pm_istore_n (i := 2) (L2 := [(0, _), (1, _), (2, _), (3, _), (4, _)]) d166_63 rfl (by decide) rfl ?_
                  first | refine pm_iincN 1 (L2 := [(0, _), (1, _), (2, _), (3, _), (4, _)]) d166_64 rfl (by decide) rfl ?_ | refine pm_iinc (L2 := [(0, _), (1, _), (2, _), (3, _), (4, _)]) d166_64 rfl rfl (by decide) rfl ?_
                  refine pm_goto (tgt := 8) d166_67 rfl ?_
                  refine pm_pick [0, 1, 2, 3] (L2 := [(0, _), (1, _), (2, _), (3, _)]) rfl ?_
                  rw [if_pos (by rw [c_21, c_29]; rfl), if_neg (by omega)] at ih
                  exact ih
                · omega
              · refine pm_iload_n (i := 3) d166_45 rfl rfl ?_
                refine pm_goto (tgt := 50) d166_46 rfl ?_
                refine pm_istore_n (i := 1) (L2 := [(0, _), (1, _), (2, _), (3, _), (4, _)]) d166_50 rfl (by decide) rfl ?_
                refine pm_iload d166_51 rfl ?_
                refine pm_iload_n (i := 2) d166_53 rfl rfl ?_
                first | refine pm_icmp_leN (tgt := 62) d166_54 rfl (by omega) (by omega) (fun c_54 => ?_) (fun c_54 => ?_) | refine pm_icmp_le (tgt := 62) d166_54 rfl (fun c_54 => ?_) (fun c_54 => ?_)
                · omega
                · refine pm_iload d166_57 rfl ?_
                  refine pm_goto (tgt := 63) d166_59 rfl ?_
                  refine pm_istore_n (i := 2) (L2 := [(0, _), (1, _), (2, _), (3, _), (4, _)]) d166_63 rfl (by decide) rfl ?_
                  first | refine pm_iincN 1 (L2 := [(0, _), (1, _), (2, _), (3, _), (4, _)]) d166_64 rfl (by decide) rfl ?_ | refine pm_iinc (L2 := [(0, _), (1, _), (2, _), (3, _), (4, _)]) d166_64 rfl rfl (by decide) rfl ?_
                  refine pm_goto (tgt := 8) d166_67 rfl ?_
                  refine pm_pick [0, 1, 2, 3] (L2 := [(0, _), (1, _), (2, _), (3, _)]) rfl ?_
                  rw [if_pos (by rw [c_21, c_29]; rfl), if_pos (by omega)] at ih
                  exact ih
    · have ei : i = ns (sF s) := by omega
      subst ei
      refine pm_iload_n (i := 3) d166_8 rfl rfl ?_
      refine pm_aload_n (i := 0) d166_9 rfl rfl ?_
      refine pm_getE d166_10 lf_11_90 rfl rfl (MI_ns hI) ?_
      first | refine pm_icmp_geN (tgt := 70) d166_13 rfl (by omega) (by omega) (fun c_13 => ?_) (fun c_13 => ?_) | refine pm_icmp_ge (tgt := 70) d166_13 rfl (fun c_13 => ?_) (fun c_13 => ?_)
      · refine pm_iload_n (i := 1) d166_70 rfl rfl ?_
        refine pm_iret d166_71 rfl (by first | rfl | exact nar_b _) ?_
        exact hh
      · omega
  refine pm_sipush (v := -1004) d166_0 (by decide) ?_
  refine pm_istore_n (i := 1) (L2 := [(0, _), (1, _)]) d166_3 rfl (by decide) rfl ?_
  refine pm_iconst (v := -1) d166_4 (by decide) ?_
  refine pm_istore_n (i := 2) (L2 := [(0, _), (1, _), (2, _)]) d166_5 rfl (by decide) rfl ?_
  refine pm_iconst (v := nI 0) d166_6 (by decide) ?_
  refine pm_istore_n (i := 3) (L2 := [(0, _), (1, _), (2, _), (3, _)]) d166_7 rfl (by decide) rfl ?_
  exact lp 0 (Nat.zero_le _)
theorem pd_143 {σ : Sig} {v : Int32} {A : Mem} {Q : Int32 → Mem → Prop} (hC : MW σ A) (h : ∀ A2, MW σ A2 → Q (aCount σ v) A2) : pm_P 143 0 [(0, .ref 0), (1, .int v)] [] A Q := by
  obtain ⟨s, H, x⟩ := σ
  obtain ⟨hI, hL, hH, hT, hX⟩ := id hC
  dsimp only at hI hL hH hT hX
  have hh := h A hC
  unfold aCount at hh
  clear h
  have k0 : (fun k => (Nat.beq 0 2 || ks s k) && (Nat.beq 0 0 || sM s k)) = ks s := by
    funext k
    show ((false || ks s k) && (true || sM s k)) = ks s k
    rw [Bool.false_or, Bool.true_or, Bool.and_true]
  have k1 : (fun k => (Nat.beq 1 2 || ks s k) && (Nat.beq 1 0 || sM s k)) = (fun i => ks s i && sM s i) := by
    funext k
    show ((false || ks s k) && (false || sM s k)) = (ks s k && sM s k)
    rw [Bool.false_or, Bool.false_or]
  have f0 : (fun k => kf s k && (!false || hf9 s k)) = kf s := by
    funext k
    show (kf s k && (true || hf9 s k)) = kf s k
    rw [Bool.true_or, Bool.and_true]
  have f1 : (fun k => kf s k && (!true || hf9 s k)) = (fun i => kf s i && !cf s i) := by
    funext k
    show (kf s k && (false || (kf s k && !cf s k))) = (kf s k && !cf s k)
    cases kf s k <;> rfl
  have e10 : A 1 0 = nI (sF s) := hI.2.2.1
  have e11 : A 1 1 = nI (sR s) := hI.2.2.2.1
  have e12 : A 1 2 = sL s := hI.2.2.2.2.1
  have e13 : A 1 3 = nI (sB s) := hI.2.2.2.2.2.1
  have e14 : A 1 4 = nI (sW s) := hI.2.2.2.2.2.2.1
  refine pm_iload_n (i := 1) d143_0 rfl rfl ?_
  by_cases hx0 : v = nI 0
  · subst hx0
    rw [ix_nI (by decide) (by decide)] at hh
    refine pm_swIn (off := 91) (tgt := 92) d143_1 (by decide) (by decide) rfl rfl ?_
    refine pm_aload_n (i := 0) d143_92 rfl rfl ?_
    refine pm_getR d143_93 lf_11_7 rfl rfl ?_
    refine pm_iconst (v := nI 0) d143_96 (by decide) ?_
    refine pm_ialdN d143_97 rfl (by decide) (by omega) ?_
    rw [e10]
    refine pm_iret d143_98 rfl (by first | rfl | exact nar_b _) ?_
    exact hh
  by_cases hx1 : v = nI 1
  · subst hx1
    rw [ix_nI (by decide) (by decide)] at hh
    refine pm_swIn (off := 98) (tgt := 99) d143_1 (by decide) (by decide) rfl rfl ?_
    refine pm_aload_n (i := 0) d143_99 rfl rfl ?_
    refine pm_getE d143_100 lf_11_76 rfl rfl (MI_nh hI) ?_
    refine pm_iret d143_103 rfl (by first | rfl | exact nar_b _) ?_
    exact hh
  by_cases hx2 : v = nI 2
  · subst hx2
    rw [ix_nI (by decide) (by decide)] at hh
    refine pm_swIn (off := 103) (tgt := 104) d143_1 (by decide) (by decide) rfl rfl ?_
    refine pm_aload_n (i := 0) d143_104 rfl rfl ?_
    refine pm_getE d143_105 lf_11_90 rfl rfl (MI_ns hI) ?_
    refine pm_iret d143_108 rfl (by first | rfl | exact nar_b _) ?_
    exact hh
  by_cases hx3 : v = nI 3
  · subst hx3
    rw [ix_nI (by decide) (by decide)] at hh
    refine pm_swIn (off := 108) (tgt := 109) d143_1 (by decide) (by decide) rfl rfl ?_
    refine pm_aload_n (i := 0) d143_109 rfl rfl ?_
    refine pm_getE d143_110 lf_11_97 rfl rfl (MI_nf hI) ?_
    refine pm_iret d143_113 rfl (by first | rfl | exact nar_b _) ?_
    exact hh
  by_cases hx4 : v = nI 4
  · subst hx4
    rw [ix_nI (by decide) (by decide)] at hh
    refine pm_swIn (off := 113) (tgt := 114) d143_1 (by decide) (by decide) rfl rfl ?_
    refine pm_aload_n (i := 0) d143_114 rfl rfl ?_
    refine pm_getE d143_115 lf_11_100 rfl rfl (MI_nk hI) ?_
    refine pm_iret d143_118 rfl (by first | rfl | exact nar_b _) ?_
    exact hh
  by_cases hx5 : v = nI 5
  · subst hx5
    rw [ix_nI (by decide) (by decide)] at hh
    refine pm_swIn (off := 118) (tgt := 119) d143_1 (by decide) (by decide) rfl rfl ?_
    refine pm_aload_n (i := 0) d143_119 rfl rfl ?_
    refine pm_getR d143_120 lf_11_7 rfl rfl ?_
    refine pm_iconst (v := nI 1) d143_123 (by decide) ?_
    refine pm_ialdN d143_124 rfl (by decide) (by omega) ?_
    rw [e11]
    refine pm_iret d143_125 rfl (by first | rfl | exact nar_b _) ?_
    exact hh
  by_cases hx6 : v = nI 6
  · subst hx6
    rw [ix_nI (by decide) (by decide)] at hh
    refine pm_swIn (off := 125) (tgt := 126) d143_1 (by decide) (by decide) rfl rfl ?_
    refine pm_aload_n (i := 0) d143_126 rfl rfl ?_
    refine pm_getR d143_127 lf_11_7 rfl rfl ?_
    refine pm_iconst (v := nI 2) d143_130 (by decide) ?_
    refine pm_ialdN d143_131 rfl (by decide) (by omega) ?_
    rw [e12]
    refine pm_iret d143_132 rfl (by first | rfl | exact nar_b _) ?_
    exact hh
  by_cases hx7 : v = nI 7
  · subst hx7
    rw [ix_nI (by decide) (by decide)] at hh
    refine pm_swIn (off := 132) (tgt := 133) d143_1 (by decide) (by decide) rfl rfl ?_
    refine pm_aload_n (i := 0) d143_133 rfl rfl ?_
    refine pm_callV (k2 := 131) (As := []) d143_134 lk_11_144 ok_131 rfl rfl rfl (Nat.le_of_ble_eq_true rfl) rfl rfl rfl rfl rfl ⟨Nat.le_of_ble_eq_true rfl, Nat.le_of_ble_eq_true rfl⟩ (Nat.le_of_ble_eq_true rfl) ?_
    refine sp_131 hI ?_
    refine pm_iret d143_137 rfl (by first | rfl | exact nar_b _) ?_
    exact hh
  by_cases hx8 : v = nI 8
  · subst hx8
    rw [ix_nI (by decide) (by decide)] at hh
    refine pm_swIn (off := 137) (tgt := 138) d143_1 (by decide) (by decide) rfl rfl ?_
    refine pm_aload_n (i := 0) d143_138 rfl rfl ?_
    refine pm_iconst (v := nI 0) d143_139 (by decide) ?_
    refine pm_callV (k2 := 140) (As := [_]) d143_140 lk_11_175 ok_140 rfl rfl rfl (Nat.le_of_ble_eq_true rfl) rfl rfl rfl rfl rfl ⟨Nat.le_of_ble_eq_true rfl, Nat.le_of_ble_eq_true rfl⟩ (Nat.le_of_ble_eq_true rfl) ?_
    refine sp_140 (w := 0) hI (by decide) ?_
    rw [k0]
    refine pm_iret d143_143 rfl (by first | rfl | exact nar_b _) ?_
    exact hh
  by_cases hx9 : v = nI 9
  · subst hx9
    rw [ix_nI (by decide) (by decide)] at hh
    refine pm_swIn (off := 143) (tgt := 144) d143_1 (by decide) (by decide) rfl rfl ?_
    refine pm_aload_n (i := 0) d143_144 rfl rfl ?_
    refine pm_iconst (v := nI 0) d143_145 (by decide) ?_
    refine pm_callV (k2 := 141) (As := [_]) d143_146 lk_11_178 ok_141 rfl rfl rfl (Nat.le_of_ble_eq_true rfl) rfl rfl rfl rfl rfl ⟨Nat.le_of_ble_eq_true rfl, Nat.le_of_ble_eq_true rfl⟩ (Nat.le_of_ble_eq_true rfl) ?_
    refine sp_141 (b := false) hI ?_
    rw [f0]
    refine pm_iret d143_149 rfl (by first | rfl | exact nar_b _) ?_
    exact hh
  by_cases hx10 : v = nI 10
  · subst hx10
    rw [ix_nI (by decide) (by decide)] at hh
    refine pm_swIn (off := 149) (tgt := 150) d143_1 (by decide) (by decide) rfl rfl ?_
    refine pm_aload_n (i := 0) d143_150 rfl rfl ?_
    refine pm_callV (k2 := 142) (As := []) d143_151 lk_11_182 ok_142 rfl rfl rfl (Nat.le_of_ble_eq_true rfl) rfl rfl rfl rfl rfl ⟨Nat.le_of_ble_eq_true rfl, Nat.le_of_ble_eq_true rfl⟩ (Nat.le_of_ble_eq_true rfl) ?_
    refine sp_142 hI ?_
    refine pm_iret d143_154 rfl (by first | rfl | exact nar_b _) ?_
    exact hh
  by_cases hx11 : v = nI 11
  · subst hx11
    rw [ix_nI (by decide) (by decide)] at hh
    refine pm_swIn (off := 154) (tgt := 155) d143_1 (by decide) (by decide) rfl rfl ?_
    refine pm_aload_n (i := 0) d143_155 rfl rfl ?_
    refine pm_iconst (v := nI 1) d143_156 (by decide) ?_
    refine pm_callV (k2 := 140) (As := [_]) d143_157 lk_11_175 ok_140 rfl rfl rfl (Nat.le_of_ble_eq_true rfl) rfl rfl rfl rfl rfl ⟨Nat.le_of_ble_eq_true rfl, Nat.le_of_ble_eq_true rfl⟩ (Nat.le_of_ble_eq_true rfl) ?_
    refine sp_140 (w := 1) hI (by decide) ?_
    rw [k1]
    refine pm_iret d143_160 rfl (by first | rfl | exact nar_b _) ?_
    exact hh
  by_cases hx12 : v = nI 12
  · subst hx12
    rw [ix_nI (by decide) (by decide)] at hh
    refine pm_swIn (off := 160) (tgt := 161) d143_1 (by decide) (by decide) rfl rfl ?_
    refine pm_aload_n (i := 0) d143_161 rfl rfl ?_
    refine pm_iconst (v := nI 1) d143_162 (by decide) ?_
    refine pm_callV (k2 := 141) (As := [_]) d143_163 lk_11_178 ok_141 rfl rfl rfl (Nat.le_of_ble_eq_true rfl) rfl rfl rfl rfl rfl ⟨Nat.le_of_ble_eq_true rfl, Nat.le_of_ble_eq_true rfl⟩ (Nat.le_of_ble_eq_true rfl) ?_
    refine sp_141 (b := true) hI ?_
    rw [f1]
    refine pm_iret d143_166 rfl (by first | rfl | exact nar_b _) ?_
    exact hh
  by_cases hx13 : v = nI 13
  · subst hx13
    rw [ix_nI (by decide) (by decide)] at hh
    refine pm_swIn (off := 166) (tgt := 167) d143_1 (by decide) (by decide) rfl rfl ?_
    refine pm_aload_n (i := 0) d143_167 rfl rfl ?_
    refine pm_callV (k2 := 131) (As := []) d143_168 lk_11_144 ok_131 rfl rfl rfl (Nat.le_of_ble_eq_true rfl) rfl rfl rfl rfl rfl ⟨Nat.le_of_ble_eq_true rfl, Nat.le_of_ble_eq_true rfl⟩ (Nat.le_of_ble_eq_true rfl) ?_
    refine sp_131 hI ?_
    refine pm_aload_n (i := 0) d143_171 rfl rfl ?_
    refine pm_iconst (v := nI 0) d143_172 (by decide) ?_
    refine pm_callV (k2 := 140) (As := [_]) d143_173 lk_11_175 ok_140 rfl rfl rfl (Nat.le_of_ble_eq_true rfl) rfl rfl rfl rfl rfl ⟨Nat.le_of_ble_eq_true rfl, Nat.le_of_ble_eq_true rfl⟩ (Nat.le_of_ble_eq_true rfl) ?_
    refine sp_140 (w := 0) hI (by decide) ?_
    rw [k0]
    refine pm_isub d143_176 ?_
    refine pm_aload_n (i := 0) d143_177 rfl rfl ?_
    refine pm_iconst (v := nI 0) d143_178 (by decide) ?_
    refine pm_callV (k2 := 141) (As := [_]) d143_179 lk_11_178 ok_141 rfl rfl rfl (Nat.le_of_ble_eq_true rfl) rfl rfl rfl rfl rfl ⟨Nat.le_of_ble_eq_true rfl, Nat.le_of_ble_eq_true rfl⟩ (Nat.le_of_ble_eq_true rfl) ?_
    refine sp_141 (b := false) hI ?_
    rw [f0]
    refine pm_iadd d143_182 ?_
    refine pm_iret d143_183 rfl (by first | rfl | exact nar_b _) ?_
    exact hh
  by_cases hx14 : v = nI 14
  · subst hx14
    rw [ix_nI (by decide) (by decide)] at hh
    refine pm_swIn (off := 183) (tgt := 184) d143_1 (by decide) (by decide) rfl rfl ?_
    refine pm_aload_n (i := 0) d143_184 rfl rfl ?_
    refine pm_getR d143_185 lf_11_7 rfl rfl ?_
    refine pm_iconst (v := nI 3) d143_188 (by decide) ?_
    refine pm_ialdN d143_189 rfl (by decide) (by omega) ?_
    rw [e13]
    refine pm_iret d143_190 rfl (by first | rfl | exact nar_b _) ?_
    exact hh
  by_cases hx15 : v = nI 15
  · subst hx15
    rw [ix_nI (by decide) (by decide)] at hh
    refine pm_swIn (off := 190) (tgt := 191) d143_1 (by decide) (by decide) rfl rfl ?_
    refine pm_aload_n (i := 0) d143_191 rfl rfl ?_
    refine pm_getR d143_192 lf_11_7 rfl rfl ?_
    refine pm_iconst (v := nI 4) d143_195 (by decide) ?_
    refine pm_ialdN d143_196 rfl (by decide) (by omega) ?_
    rw [e14]
    refine pm_iret d143_197 rfl (by first | rfl | exact nar_b _) ?_
    exact hh
  by_cases hx16 : v = nI 16
  · subst hx16
    rw [ix_nI (by decide) (by decide)] at hh
    refine pm_swIn (off := 197) (tgt := 198) d143_1 (by decide) (by decide) rfl rfl ?_
    refine pm_aload_n (i := 0) d143_198 rfl rfl ?_
    refine pm_getE d143_199 lf_11_72 rfl rfl (hH.2.1) ?_
    refine pm_iret d143_202 rfl (by first | rfl | exact nar_b _) ?_
    exact hh
  by_cases hx17 : v = nI 17
  · subst hx17
    rw [ix_nI (by decide) (by decide)] at hh
    refine pm_swIn (off := 202) (tgt := 203) d143_1 (by decide) (by decide) rfl rfl ?_
    refine pm_aload_n (i := 0) d143_203 rfl rfl ?_
    refine pm_getE d143_204 lf_11_185 rfl rfl (hT.1) ?_
    refine pm_iret d143_207 rfl (by first | rfl | exact nar_b _) ?_
    exact hh
  by_cases hx18 : v = nI 18
  · subst hx18
    rw [ix_nI (by decide) (by decide)] at hh
    refine pm_swIn (off := 207) (tgt := 208) d143_1 (by decide) (by decide) rfl rfl ?_
    refine pm_aload_n (i := 0) d143_208 rfl rfl ?_
    refine pm_iconst (v := nI 2) d143_209 (by decide) ?_
    refine pm_callV (k2 := 140) (As := [_]) d143_210 lk_11_175 ok_140 rfl rfl rfl (Nat.le_of_ble_eq_true rfl) rfl rfl rfl rfl rfl ⟨Nat.le_of_ble_eq_true rfl, Nat.le_of_ble_eq_true rfl⟩ (Nat.le_of_ble_eq_true rfl) ?_
    refine sp_140_2 hI ?_
    refine pm_iret d143_213 rfl (by first | rfl | exact nar_b _) ?_
    exact hh
  rw [ix_out (by decide) (by decide) (fun j hj => by rcases (show j = 0 ∨ j = 1 ∨ j = 2 ∨ j = 3 ∨ j = 4 ∨ j = 5 ∨ j = 6 ∨ j = 7 ∨ j = 8 ∨ j = 9 ∨ j = 10 ∨ j = 11 ∨ j = 12 ∨ j = 13 ∨ j = 14 ∨ j = 15 ∨ j = 16 ∨ j = 17 ∨ j = 18 by omega) with rfl | rfl | rfl | rfl | rfl | rfl | rfl | rfl | rfl | rfl | rfl | rfl | rfl | rfl | rfl | rfl | rfl | rfl | rfl <;> assumption)] at hh
  refine pm_swOut (tgt := 214) d143_1 (sw_out 19 (by decide) (by decide) (fun j hj => by rcases (show j = 0 ∨ j = 1 ∨ j = 2 ∨ j = 3 ∨ j = 4 ∨ j = 5 ∨ j = 6 ∨ j = 7 ∨ j = 8 ∨ j = 9 ∨ j = 10 ∨ j = 11 ∨ j = 12 ∨ j = 13 ∨ j = 14 ∨ j = 15 ∨ j = 16 ∨ j = 17 ∨ j = 18 by omega) with rfl | rfl | rfl | rfl | rfl | rfl | rfl | rfl | rfl | rfl | rfl | rfl | rfl | rfl | rfl | rfl | rfl | rfl | rfl <;> assumption)) rfl ?_
  refine pm_sipush (v := -1001) d143_214 (by decide) ?_
  refine pm_iret d143_217 rfl (by first | rfl | exact nar_b _) ?_
  exact hh
