/-! THE REFERENCE'S CALLS ON STOCK, STRUTS, KINDS, FACES -/
theorem pcs_same {s s2 : Stt} (hF : sF s2 = sF s) (hk : ∀ i, ks s2 i = ks s i) : ∀ n, pcs s2 n = pcs s n := by
  intro n
  induction n with
  | zero => rfl
  | succ n ih => simp only [pcs]; rw [hF, hk, ih]
theorem swn_same {s s2 : Stt} (hF : sF s2 = sF s) (hk : ∀ i, ks s2 i = ks s i) (R B S : Nat) : swn s2 R B S = swn s R B S := by
  have hl : lnS s2 R = lnS s R := by
    funext k
    unfold lnS
    rw [hF]
  unfold swn kp nw
  rw [hl, hF, pcs_same hF hk]
theorem sum_bars {g : Nat → Nat} {n : Nat} : mxN g (n + 1) = if mxN g n < g n then g n else mxN g n := rfl
theorem pd_133 {σ : Sig} {v w : Int32} {A : Mem} {Q : Int32 → Mem → Prop} (hC : MW σ A) (h : ∀ A2, MW (aStock σ v w).2 A2 → Q (aStock σ v w).1 A2) : pm_P 133 0 [(0, .ref 0), (1, .int v), (2, .int w)] [] A Q := by
  obtain ⟨s, H, x⟩ := σ
  obtain ⟨hI, hL, hH, hT, hX⟩ := id hC
  dsimp only at hI hL hH hT hX
  have hb := MI_bd hI
  obtain ⟨F1, F6, R1, R2, B1, B2, W1, -⟩ := hI.1
  have hml : mxN (gK s (sR s)) (ns (sF s)) ≤ 4095 := mxN_le (fun j _ => by have := gK_lt s (sR s) j; omega)
  unfold aStock at h
  dsimp only at h
  refine pm_iload_n (i := 1) d133_0 rfl rfl ?_
  refine pm_bipush (v := nI 100) d133_1 (by decide) ?_
  refine pm_sipush (v := nI 20000) d133_3 (by decide) ?_
  refine pm_callS (k2 := 113) (As := [_, _, _]) d133_6 lk_11_130 ok_113 rfl rfl rfl (Nat.le_of_ble_eq_true rfl) rfl rfl ⟨Nat.le_of_ble_eq_true rfl, Nat.le_of_ble_eq_true rfl⟩ (Nat.le_of_ble_eq_true rfl) ?_
  refine sp_113 ?_
  rw [wi_def]
  first | refine pm_if_eqB (tgt := 22) d133_9 rfl (fun c_9 => ?_) (fun c_9 => ?_) | refine pm_if_eqN (tgt := 22) d133_9 rfl (by omega) (fun c_9 => ?_) (fun c_9 => ?_) | refine pm_if_eq (tgt := 22) d133_9 rfl (fun c_9 => ?_) (fun c_9 => ?_)
  · rw [c_9, Bool.false_and, if_neg (by decide)] at h 
    refine pm_sipush (v := -1001) d133_22 (by decide) ?_
    refine pm_iret d133_25 rfl (by first | rfl | exact nar_b _) ?_
    exact h A hC
  · refine pm_iload_n (i := 2) d133_12 rfl rfl ?_
    refine pm_iconst (v := nI 0) d133_13 (by decide) ?_
    refine pm_bipush (v := nI 20) d133_14 (by decide) ?_
    refine pm_callS (k2 := 113) (As := [_, _, _]) d133_16 lk_11_130 ok_113 rfl rfl rfl (Nat.le_of_ble_eq_true rfl) rfl rfl ⟨Nat.le_of_ble_eq_true rfl, Nat.le_of_ble_eq_true rfl⟩ (Nat.le_of_ble_eq_true rfl) ?_
    refine sp_113 ?_
    rw [wi_def]
    first | refine pm_if_neB (tgt := 26) d133_19 rfl (fun c_19 => ?_) (fun c_19 => ?_) | refine pm_if_neN (tgt := 26) d133_19 rfl (by omega) (fun c_19 => ?_) (fun c_19 => ?_) | refine pm_if_ne (tgt := 26) d133_19 rfl (fun c_19 => ?_) (fun c_19 => ?_)
    · rw [if_pos (by rw [c_9, c_19]; rfl)] at h
      obtain ⟨b, hb1, hb2, rfl⟩ := wi_of (by decide) (by decide) c_9
      obtain ⟨w, hw1, hw2, rfl⟩ := wi_of (by decide) (by decide) c_19
      rw [nI_clamp (by omega), nI_clamp (by omega)] at h 
      refine pm_aload_n (i := 0) d133_26 rfl rfl ?_
      refine pm_callV (k2 := 167) (As := []) d133_27 lk_11_148 ok_167 rfl rfl rfl (Nat.le_of_ble_eq_true rfl) rfl rfl rfl rfl rfl ⟨Nat.le_of_ble_eq_true rfl, Nat.le_of_ble_eq_true rfl⟩ (Nat.le_of_ble_eq_true rfl) ?_
      refine sp_167 hI hL ?_
      refine pm_iload_n (i := 1) d133_30 rfl rfl ?_
      first | refine pm_icmp_leN (tgt := 38) d133_31 rfl (by omega) (by omega) (fun c_31 => ?_) (fun c_31 => ?_) | refine pm_icmp_le (tgt := 38) d133_31 rfl (fun c_31 => ?_) (fun c_31 => ?_)
      · have hfit : fits s (sR s) b := long_fits.mp c_31
        rw [if_pos (by unfold fitB; exact decide_eq_true hfit)] at h 
        refine pm_aload_n (i := 0) d133_38 rfl rfl ?_
        refine pm_callVv (k2 := 115) (As := []) d133_39 lk_11_134 ok_115 rfl rfl rfl (Nat.le_of_ble_eq_true rfl) rfl rfl rfl rfl rfl ⟨Nat.le_of_ble_eq_true rfl, Nat.le_of_ble_eq_true rfl⟩ (Nat.le_of_ble_eq_true rfl) ?_
        refine sp_115 hH hI.2.2 hI.1 (fun A1 f1 f2 f3 => ?_)
        have hI2 : MI (sF s, sR s, sL s, b, w, sM s) (mset (mset A1 1 3 (nI b)) 1 4 (nI w)) := by
          refine ⟨⟨F1, F6, R1, R2, hb1, hb2, hw2, hI.1.2.2.2.2.2.2.2⟩, MB_keep hI.2.1 (fun j _ _ => by rw [mset_other (by decide), mset_other (by decide)]; exact f2 j (by omega)) (fun c _ _ => by rw [mset_other (by omega), mset_other (by omega)]; exact f1 c (by omega) (by omega)), ?_, ?_, ?_, ?_, ?_, fun k hk => ?_⟩
          · rw [mset_ne (by decide), mset_ne (by decide), f1 1 (by decide) (by decide)]; exact hI.2.2.1
          · rw [mset_ne (by decide), mset_ne (by decide), f1 1 (by decide) (by decide)]; exact hI.2.2.2.1
          · rw [mset_ne (by decide), mset_ne (by decide), f1 1 (by decide) (by decide)]; exact hI.2.2.2.2.1
          · rw [mset_ne (by decide), mset_at]; rfl
          · rw [mset_at]; rfl
          · rw [mset_ne (by omega), mset_ne (by omega), f1 1 (by decide) (by decide)]; exact hI.2.2.2.2.2.2.2 k hk
        have hN2 : LNm (sF s, sR s, sL s, b, w, sM s) (sR s) (mset (mset A1 1 3 (nI b)) 1 4 (nI w)) := fun q hq => by rw [mset_other (by decide), mset_other (by decide), f1 14 (by decide) (by decide)]; exact hL q hq
        have esw : swn (sF s, sR s, sL s, b, w, sM s) (sR s) b w = swn s (sR s) b w := swn_same (s := s) (s2 := (sF s, sR s, sL s, b, w, sM s)) rfl (fun _ => rfl) (sR s) b w
        have hfit2 : fits (sF s, sR s, sL s, b, w, sM s) (sR s) b := hfit
        have hle := swn_le (S := w) F1 F6 R1 R2 (show 1 ≤ b by omega) hfit
        refine pm_aload_n (i := 0) d133_42 rfl rfl ?_
        refine pm_getR d133_43 lf_11_7 rfl rfl ?_
        refine pm_iconst (v := nI 3) d133_46 (by decide) ?_
        refine pm_iload_n (i := 1) d133_47 rfl rfl ?_
        refine pm_iastN d133_48 rfl (by decide) (by omega) ?_
        refine pm_aload_n (i := 0) d133_49 rfl rfl ?_
        refine pm_getR d133_50 lf_11_7 rfl rfl ?_
        refine pm_iconst (v := nI 4) d133_53 (by decide) ?_
        refine pm_iload_n (i := 2) d133_54 rfl rfl ?_
        refine pm_iastN d133_55 rfl (by decide) (by omega) ?_
        refine pm_aload_n (i := 0) d133_56 rfl rfl ?_
        refine pm_sipush (v := nI 432) d133_57 (by decide) ?_
        refine pm_callVv (k2 := 170) (As := [_]) d133_60 lk_11_151 ok_170 rfl rfl rfl (Nat.le_of_ble_eq_true rfl) rfl rfl rfl rfl rfl ⟨Nat.le_of_ble_eq_true rfl, Nat.le_of_ble_eq_true rfl⟩ (Nat.le_of_ble_eq_true rfl) ?_
        refine sp_170 (R := sR s) (m := 432) hI2 hN2 R1 R2 (by decide) hfit2 (fun A2 g1 g2 g3 g4 => ?_)
        have g5 := (g3 (by show (swn (sF s, sR s, sL s, b, w, sM s) (sR s) b w).1 ≤ 432; rw [esw]; omega)).1.1
        refine pm_aload_n (i := 0) d133_63 rfl rfl ?_
        refine pm_getE (v := nI (swn s (sR s) b w).1) d133_64 lf_11_154 rfl rfl (by rw [← esw]; exact g5) ?_
        refine pm_iret d133_67 rfl (by first | rfl | exact nar_b _) ?_
        refine h A2 (MW_mk hI2.1 (MB_keep hI2.2.1 (fun j _ _ => g2 j (by omega)) (fun c _ _ => g1 c (by omega) (by omega) (by omega) (by omega))) (SM_keep hI2.2.2 (g1 1 (by decide) (by decide) (by decide) (by decide))) (LNm_keep hN2 (g1 14 (by decide) (by decide) (by decide) (by decide))) (MHi_keep f3 (by rw [g2 2 (by decide), mset_other (by decide), mset_other (by decide)]) (by rw [g1 2 (by decide) (by decide) (by decide) (by decide), mset_other (by decide), mset_other (by decide)])) (MTx_keep hT (by rw [g2 4 (by decide), mset_other (by decide), mset_other (by decide), f2 4 (by decide)]) (by rw [g1 3 (by decide) (by decide) (by decide) (by decide), mset_other (by decide), mset_other (by decide), f1 3 (by decide) (by decide)])) hX)
      · rw [if_neg (by unfold fitB; rw [decide_eq_false (fun q => by have := long_fits.mpr q; omega)]; decide)] at h 
        refine pm_sipush (v := -1002) d133_34 (by decide) ?_
        refine pm_iret d133_37 rfl (by first | rfl | exact nar_b _) ?_
        exact h A hC
    · rw [c_19, Bool.and_false, if_neg (by decide)] at h 
      refine pm_sipush (v := -1001) d133_22 (by decide) ?_
      refine pm_iret d133_25 rfl (by first | rfl | exact nar_b _) ?_
      exact h A hC
theorem sp_158 {s : Stt} {i : Nat} {A : Mem} {Q : Int32 → Mem → Prop} (hI : MI s A) (hL : LNm s (sR s) A) (hi9 : i < ns (sF s)) (h : ∀ A2 : Mem, (∀ c, c ≠ 0 → c ≠ 16 → c ≠ 17 → c ≠ 18 → A2 c = A c) → (∀ j, j ≠ 22 → A2 0 j = A 0 j) → Q (barA s i) A2) : pm_P 158 0 [(0, .ref 0), (1, .int (nI i))] [] A Q := by
  have hb := MI_bd hI
  obtain ⟨F1, F6, R1, R2, B1, B2, W1, -⟩ := hI.1
  have hml : mxN (gK s (sR s)) (ns (sF s)) ≤ 4095 := mxN_le (fun j _ => by have := gK_lt s (sR s) j; omega)
  have e3 : A 1 3 = nI (sB s) := hI.2.2.2.2.2.1
  unfold barA at h
  have h0 := h A (fun _ _ _ _ _ => rfl) (fun _ _ => rfl)
  refine pm_aload_n (i := 0) d158_0 rfl rfl ?_
  refine pm_callV (k2 := 167) (As := []) d158_1 lk_11_148 ok_167 rfl rfl rfl (Nat.le_of_ble_eq_true rfl) rfl rfl rfl rfl rfl ⟨Nat.le_of_ble_eq_true rfl, Nat.le_of_ble_eq_true rfl⟩ (Nat.le_of_ble_eq_true rfl) ?_
  refine sp_167 hI hL ?_
  refine pm_aload_n (i := 0) d158_4 rfl rfl ?_
  refine pm_getR d158_5 lf_11_7 rfl rfl ?_
  refine pm_iconst (v := nI 3) d158_8 (by decide) ?_
  refine pm_ialdN d158_9 rfl (by decide) (by omega) ?_
  rw [e3]
  first | refine pm_icmp_leN (tgt := 17) d158_10 rfl (by omega) (by omega) (fun c_10 => ?_) (fun c_10 => ?_) | refine pm_icmp_le (tgt := 17) d158_10 rfl (fun c_10 => ?_) (fun c_10 => ?_)
  · have hfit : fits s (sR s) (sB s) := long_fits.mp c_10
    rw [if_pos (by unfold fitB; exact decide_eq_true hfit)] at h h0
    have hle := swn_le (S := sW s) F1 F6 R1 R2 (show 1 ≤ sB s by omega) hfit 
    refine pm_aload_n (i := 0) d158_17 rfl rfl ?_
    refine pm_iload_n (i := 1) d158_18 rfl rfl ?_
    refine pm_callV (k2 := 134) (As := [_]) d158_19 lk_11_166 ok_134 rfl rfl rfl (Nat.le_of_ble_eq_true rfl) rfl rfl rfl rfl rfl ⟨Nat.le_of_ble_eq_true rfl, Nat.le_of_ble_eq_true rfl⟩ (Nat.le_of_ble_eq_true rfl) ?_
    refine sp_134 hI hi9 ?_
    first | refine pm_if_neB (tgt := 29) d158_22 rfl (fun c_22 => ?_) (fun c_22 => ?_) | refine pm_if_neN (tgt := 29) d158_22 rfl (by omega) (fun c_22 => ?_) (fun c_22 => ?_) | refine pm_if_ne (tgt := 29) d158_22 rfl (fun c_22 => ?_) (fun c_22 => ?_)
    · rw [if_pos c_22] at h 
      refine pm_aload_n (i := 0) d158_29 rfl rfl ?_
      refine pm_sipush (v := nI 432) d158_30 (by decide) ?_
      refine pm_callVv (k2 := 170) (As := [_]) d158_33 lk_11_151 ok_170 rfl rfl rfl (Nat.le_of_ble_eq_true rfl) rfl rfl rfl rfl rfl ⟨Nat.le_of_ble_eq_true rfl, Nat.le_of_ble_eq_true rfl⟩ (Nat.le_of_ble_eq_true rfl) ?_
      refine sp_170 (R := sR s) (m := 432) hI hL R1 R2 (by decide) hfit (fun A2 g1 g2 g3 g4 => ?_)
      have g5 := (g3 (by omega)).2
      obtain ⟨j, hj, e⟩ := kp_all F1 F6 hi9 c_22
      have e46 := g5 j hj
      rw [e] at e46
      refine pm_aload_n (i := 0) d158_36 rfl rfl ?_
      refine pm_getR d158_37 lf_11_62 rfl rfl ?_
      refine pm_iload_n (i := 1) d158_40 rfl rfl ?_
      refine pm_ialdN d158_41 rfl (by decide) (by omega) ?_
      rw [e46]
      refine pm_iret d158_42 rfl (by first | rfl | exact nar_b _) ?_
      exact h A2 g1 g2
    · rw [if_neg (by rw [c_22]; decide)] at h0 
      refine pm_sipush (v := -1004) d158_25 (by decide) ?_
      refine pm_iret d158_28 rfl (by first | rfl | exact nar_b _) ?_
      exact h0
  · rw [if_neg (by unfold fitB; rw [decide_eq_false (fun q => by have := long_fits.mpr q; omega)]; decide)] at h0 
    refine pm_sipush (v := -1002) d158_13 (by decide) ?_
    refine pm_iret d158_16 rfl (by first | rfl | exact nar_b _) ?_
    exact h0
theorem pd_157 {σ : Sig} {u v : Int32} {A : Mem} {Q : Int32 → Mem → Prop} (hC : MW σ A) (h : ∀ A2, MW σ A2 → Q (aStrutOf σ.1 u v) A2) : pm_P 157 0 [(0, .ref 0), (1, .int u), (2, .int v)] [] A Q := by
  obtain ⟨s, H, x⟩ := σ
  have hI : MI s A := hC.1
  have hL : LNm s (sR s) A := hC.2.1
  dsimp only at h
  have hb := MI_bd hI
  have hh := h A hC
  unfold aStrutOf at hh
  refine pm_aload_n (i := 0) d157_0 rfl rfl ?_
  refine pm_iload_n (i := 1) d157_1 rfl rfl ?_
  refine pm_callV (k2 := 155) (As := [_]) d157_2 lk_11_208 ok_155 rfl rfl rfl (Nat.le_of_ble_eq_true rfl) rfl rfl rfl rfl rfl ⟨Nat.le_of_ble_eq_true rfl, Nat.le_of_ble_eq_true rfl⟩ (Nat.le_of_ble_eq_true rfl) ?_
  refine sp_155 hI ?_
  first | refine pm_if_eqB (tgt := 18) d157_5 rfl (fun c_5 => ?_) (fun c_5 => ?_) | refine pm_if_eqN (tgt := 18) d157_5 rfl (by omega) (fun c_5 => ?_) (fun c_5 => ?_) | refine pm_if_eq (tgt := 18) d157_5 rfl (fun c_5 => ?_) (fun c_5 => ?_)
  · rw [if_neg (by rw [c_5]; decide)] at hh 
    refine pm_sipush (v := -1001) d157_18 (by decide) ?_
    refine pm_iret d157_21 rfl (by first | rfl | exact nar_b _) ?_
    exact hh
  · obtain ⟨k, hk, rfl⟩ := inN_of (by omega) (by omega) c_5
    rw [if_pos c_5, nI_clamp (by omega)] at hh
    have hko := (bd_s hI.1.1 hI.1.2.1 hk).2.2.1 
    refine pm_iload_n (i := 2) d157_8 rfl rfl ?_
    refine pm_iconst (v := nI 0) d157_9 (by decide) ?_
    refine pm_bipush (v := nI 8) d157_10 (by decide) ?_
    refine pm_callS (k2 := 113) (As := [_, _, _]) d157_12 lk_11_130 ok_113 rfl rfl rfl (Nat.le_of_ble_eq_true rfl) rfl rfl ⟨Nat.le_of_ble_eq_true rfl, Nat.le_of_ble_eq_true rfl⟩ (Nat.le_of_ble_eq_true rfl) ?_
    refine sp_113 ?_
    rw [wi_def, wi_inN]
    first | refine pm_if_neB (tgt := 22) d157_15 rfl (fun c_15 => ?_) (fun c_15 => ?_) | refine pm_if_neN (tgt := 22) d157_15 rfl (by omega) (fun c_15 => ?_) (fun c_15 => ?_) | refine pm_if_ne (tgt := 22) d157_15 rfl (fun c_15 => ?_) (fun c_15 => ?_)
    · refine pm_iload_n (i := 2) d157_22 rfl rfl ?_
      by_cases hx0 : v = nI 0
      · subst hx0
        rw [ix_nI (by decide) (by decide)] at hh
        refine pm_swIn (off := 45) (tgt := 68) d157_23 (by decide) (by decide) rfl rfl ?_
        refine pm_aload_n (i := 0) d157_68 rfl rfl ?_
        refine pm_getR d157_69 lf_11_29 rfl rfl ?_
        refine pm_iload_n (i := 1) d157_72 rfl rfl ?_
        refine pm_ialdN d157_73 rfl (by decide) (by omega) ?_
        rw [(MI_lo hI hk).1]
        refine pm_iret d157_74 rfl (by first | rfl | exact nar_b _) ?_
        exact hh
      by_cases hx1 : v = nI 1
      · subst hx1
        rw [ix_nI (by decide) (by decide)] at hh
        refine pm_swIn (off := 52) (tgt := 75) d157_23 (by decide) (by decide) rfl rfl ?_
        refine pm_aload_n (i := 0) d157_75 rfl rfl ?_
        refine pm_getR d157_76 lf_11_32 rfl rfl ?_
        refine pm_iload_n (i := 1) d157_79 rfl rfl ?_
        refine pm_ialdN d157_80 rfl (by decide) (by omega) ?_
        rw [(MI_lo hI hk).2]
        refine pm_iret d157_81 rfl (by first | rfl | exact nar_b _) ?_
        exact hh
      by_cases hx2 : v = nI 2
      · subst hx2
        rw [ix_nI (by decide) (by decide)] at hh
        refine pm_swIn (off := 59) (tgt := 82) d157_23 (by decide) (by decide) rfl rfl ?_
        refine pm_aload_n (i := 0) d157_82 rfl rfl ?_
        refine pm_getR d157_83 lf_11_35 rfl rfl ?_
        refine pm_iload_n (i := 1) d157_86 rfl rfl ?_
        refine pm_ialdN d157_87 rfl (by decide) (by omega) ?_
        rw [MI_ko hI hk]
        refine pm_iret d157_88 rfl (by first | rfl | exact nar_b _) ?_
        exact hh
      by_cases hx3 : v = nI 3
      · subst hx3
        rw [ix_nI (by decide) (by decide)] at hh
        refine pm_swIn (off := 66) (tgt := 89) d157_23 (by decide) (by decide) rfl rfl ?_
        refine pm_aload_n (i := 0) d157_89 rfl rfl ?_
        refine pm_getR d157_90 lf_11_50 rfl rfl ?_
        refine pm_aload_n (i := 0) d157_93 rfl rfl ?_
        refine pm_getR d157_94 lf_11_35 rfl rfl ?_
        refine pm_iload_n (i := 1) d157_97 rfl rfl ?_
        refine pm_ialdN d157_98 rfl (by decide) (by omega) ?_
        rw [MI_ko hI hk]
        refine pm_ialdN d157_99 rfl (by decide) (by omega) ?_
        rw [hL _ hko]
        refine pm_iret d157_100 rfl (by first | rfl | exact nar_b _) ?_
        exact hh
      by_cases hx4 : v = nI 4
      · subst hx4
        rw [ix_nI (by decide) (by decide)] at hh
        refine pm_swIn (off := 78) (tgt := 101) d157_23 (by decide) (by decide) rfl rfl ?_
        refine pm_aload_n (i := 0) d157_101 rfl rfl ?_
        refine pm_iload_n (i := 1) d157_102 rfl rfl ?_
        refine pm_callV (k2 := 134) (As := [_]) d157_103 lk_11_166 ok_134 rfl rfl rfl (Nat.le_of_ble_eq_true rfl) rfl rfl rfl rfl rfl ⟨Nat.le_of_ble_eq_true rfl, Nat.le_of_ble_eq_true rfl⟩ (Nat.le_of_ble_eq_true rfl) ?_
        refine sp_134 hI hk ?_
        first | refine pm_if_eqB (tgt := 113) d157_106 rfl (fun c_106 => ?_) (fun c_106 => ?_) | refine pm_if_eqN (tgt := 113) d157_106 rfl (by omega) (fun c_106 => ?_) (fun c_106 => ?_) | refine pm_if_eq (tgt := 113) d157_106 rfl (fun c_106 => ?_) (fun c_106 => ?_)
        · refine pm_iconst (v := nI 0) d157_113 (by decide) ?_
          refine pm_iret d157_114 rfl (by first | rfl | exact nar_b _) ?_
          have hh : Q (b2i (ks s k)) A := hh
          rw [c_106] at hh
          exact hh
        · refine pm_iconst (v := nI 1) d157_109 (by decide) ?_
          refine pm_goto (tgt := 114) d157_110 rfl ?_
          refine pm_iret d157_114 rfl (by first | rfl | exact nar_b _) ?_
          have hh : Q (b2i (ks s k)) A := hh
          rw [c_106] at hh
          exact hh
      by_cases hx5 : v = nI 5
      · subst hx5
        rw [ix_nI (by decide) (by decide)] at hh
        refine pm_swIn (off := 92) (tgt := 115) d157_23 (by decide) (by decide) rfl rfl ?_
        refine pm_aload_n (i := 0) d157_115 rfl rfl ?_
        refine pm_iload_n (i := 1) d157_116 rfl rfl ?_
        refine pm_callV (k2 := 135) (As := [_]) d157_117 lk_11_163 ok_135 rfl rfl rfl (Nat.le_of_ble_eq_true rfl) rfl rfl rfl rfl rfl ⟨Nat.le_of_ble_eq_true rfl, Nat.le_of_ble_eq_true rfl⟩ (Nat.le_of_ble_eq_true rfl) ?_
        refine sp_135 hI (by omega) ?_
        first | refine pm_if_eqB (tgt := 127) d157_120 rfl (fun c_120 => ?_) (fun c_120 => ?_) | refine pm_if_eqN (tgt := 127) d157_120 rfl (by omega) (fun c_120 => ?_) (fun c_120 => ?_) | refine pm_if_eq (tgt := 127) d157_120 rfl (fun c_120 => ?_) (fun c_120 => ?_)
        · refine pm_iconst (v := nI 0) d157_127 (by decide) ?_
          refine pm_iret d157_128 rfl (by first | rfl | exact nar_b _) ?_
          have hh : Q (b2i (sM s k)) A := hh
          rw [c_120] at hh
          exact hh
        · refine pm_iconst (v := nI 1) d157_123 (by decide) ?_
          refine pm_goto (tgt := 128) d157_124 rfl ?_
          refine pm_iret d157_128 rfl (by first | rfl | exact nar_b _) ?_
          have hh : Q (b2i (sM s k)) A := hh
          rw [c_120] at hh
          exact hh
      by_cases hx6 : v = nI 6
      · subst hx6
        rw [ix_nI (by decide) (by decide)] at hh
        refine pm_swIn (off := 106) (tgt := 129) d157_23 (by decide) (by decide) rfl rfl ?_
        refine pm_aload_n (i := 0) d157_129 rfl rfl ?_
        refine pm_iload_n (i := 1) d157_130 rfl rfl ?_
        refine pm_callV (k2 := 121) (As := [_]) d157_131 lk_11_103 ok_121 rfl rfl rfl (Nat.le_of_ble_eq_true rfl) rfl rfl rfl rfl rfl ⟨Nat.le_of_ble_eq_true rfl, Nat.le_of_ble_eq_true rfl⟩ (Nat.le_of_ble_eq_true rfl) ?_
        refine sp_121 hI.1.1 hI.1.2.1 hI.2.1.2.1 hI.2.1.2.2.1.2.1 hk ?_
        refine pm_iret d157_134 rfl (by first | rfl | exact nar_b _) ?_
        exact hh
      by_cases hx7 : v = nI 7
      · subst hx7
        rw [ix_nI (by decide) (by decide)] at hh
        refine pm_swIn (off := 112) (tgt := 135) d157_23 (by decide) (by decide) rfl rfl ?_
        refine pm_aload_n (i := 0) d157_135 rfl rfl ?_
        refine pm_iload_n (i := 1) d157_136 rfl rfl ?_
        refine pm_callV (k2 := 122) (As := [_]) d157_137 lk_11_106 ok_122 rfl rfl rfl (Nat.le_of_ble_eq_true rfl) rfl rfl rfl rfl rfl ⟨Nat.le_of_ble_eq_true rfl, Nat.le_of_ble_eq_true rfl⟩ (Nat.le_of_ble_eq_true rfl) ?_
        refine sp_122 hI.1.1 hI.1.2.1 hI.2.1.2.1 hI.2.1.2.2.1.2.1 hk ?_
        refine pm_iret d157_140 rfl (by first | rfl | exact nar_b _) ?_
        exact hh
      have e8 : ix v 9 = 8 := by
        obtain ⟨n, hn, rfl⟩ := inN_of (by decide) (by decide) c_15
        have n0 : ¬ n = 0 := fun q => hx0 (by rw [q])
        have n1 : ¬ n = 1 := fun q => hx1 (by rw [q])
        have n2 : ¬ n = 2 := fun q => hx2 (by rw [q])
        have n3 : ¬ n = 3 := fun q => hx3 (by rw [q])
        have n4 : ¬ n = 4 := fun q => hx4 (by rw [q])
        have n5 : ¬ n = 5 := fun q => hx5 (by rw [q])
        have n6 : ¬ n = 6 := fun q => hx6 (by rw [q])
        have n7 : ¬ n = 7 := fun q => hx7 (by rw [q])
        rw [show n = 8 by omega]
        exact ix_nI (by decide) (by decide)
      rw [e8] at hh
      refine pm_swOut (tgt := 141) d157_23 (sw_out 8 (by decide) (by decide) (fun j hj => by rcases (show j = 0 ∨ j = 1 ∨ j = 2 ∨ j = 3 ∨ j = 4 ∨ j = 5 ∨ j = 6 ∨ j = 7 by omega) with rfl | rfl | rfl | rfl | rfl | rfl | rfl | rfl <;> assumption)) rfl ?_
      refine pm_aload_n (i := 0) d157_141 rfl rfl ?_
      refine pm_iload_n (i := 1) d157_142 rfl rfl ?_
      refine pm_callV (k2 := 158) (As := [_]) d157_143 lk_11_211 ok_158 rfl rfl rfl (Nat.le_of_ble_eq_true rfl) rfl rfl rfl rfl rfl ⟨Nat.le_of_ble_eq_true rfl, Nat.le_of_ble_eq_true rfl⟩ (Nat.le_of_ble_eq_true rfl) ?_
      refine sp_158 hI hL hk (fun A2 f1 f2 => ?_)
      have hh2 := h A2 (MW_keep hC (fun j hj => f2 j (by omega)) (fun c _ hc => f1 c (by omega) (by omega) (by omega) (by omega)))
      unfold aStrutOf at hh2
      rw [if_pos c_5, nI_clamp (show k < 2 ^ 31 by omega), e8] at hh2
      refine pm_iret d157_146 rfl (by first | rfl | exact nar_b _) ?_
      exact hh2
    · rw [ix_f c_15] at hh 
      refine pm_sipush (v := -1001) d157_18 (by decide) ?_
      refine pm_iret d157_21 rfl (by first | rfl | exact nar_b _) ?_
      exact hh
theorem pd_171 {σ : Sig} {v : Int32} {A : Mem} {Q : Int32 → Mem → Prop} (hC : MW σ A) (h : ∀ A2, MW σ A2 → Q (aStk σ.1 v) A2) : pm_P 171 0 [(0, .ref 0), (1, .int v)] [] A Q := by
  obtain ⟨s, H, x⟩ := σ
  have hI : MI s A := hC.1
  have hL : LNm s (sR s) A := hC.2.1
  dsimp only at h
  have hb := MI_bd hI
  obtain ⟨F1, F6, R1, R2, B1, B2, W1, -⟩ := hI.1
  have hml : mxN (gK s (sR s)) (ns (sF s)) ≤ 4095 := mxN_le (fun j _ => by have := gK_lt s (sR s) j; omega)
  have e3 : A 1 3 = nI (sB s) := hI.2.2.2.2.2.1
  unfold aStk at h
  have lp : ∀ n, n < 4 → fits s (sR s) (sB s) → (∀ A2, MW (s, H, x) A2 → Q (stkA s n) A2) → ∀ A1 : Mem, (∀ c, c ≠ 0 → c ≠ 16 → c ≠ 17 → c ≠ 18 → A1 c = A c) → (∀ j, j ≠ 22 → A1 0 j = A 0 j) → SX (swn s (sR s) (sB s) (sW s)) A1 → ∀ i, i ≤ (swn s (sR s) (sB s) (sW s)).1 → pm_P 171 44 [(0, .ref 0), (1, .int (nI n)), (2, .int (nI (smN (swn s (sR s) (sB s) (sW s)).2.1 i))), (3, .int (nI (mxN (swn s (sR s) (sB s) (sW s)).2.2.1 i))), (4, .int (nI i))] [] A1 Q := by
    intro n hn hfit hq A1 g1 g0 g2
    have hle := swn_le (S := sW s) F1 F6 R1 R2 (show 1 ≤ sB s by omega) hfit
    have hI1 : MI s A1 := MI_keep hI (fun j _ _ => g0 j (by omega)) (fun c _ _ => g1 c (by omega) (by omega) (by omega) (by omega)) (g1 1 (by decide) (by decide) (by decide) (by decide))
    have hN1 : LNm s (sR s) A1 := LNm_keep hL (g1 14 (by decide) (by decide) (by decide) (by decide))
    have hh := hq A1 (MW_keep hC (fun j hj => g0 j (by omega)) (fun c _ hc => g1 c (by omega) (by omega) (by omega) (by omega)))
    refine up_ind (fun i hi9 ih => ?_)
    have hmx : mxN (swn s (sR s) (sB s) (sW s)).2.2.1 i ≤ 432 := mxN_le (fun j hj => by have := (hle.2.2 j (by omega)).2; omega)
    by_cases hlt : i < (swn s (sR s) (sB s) (sW s)).1
    · have ih := ih hlt
      obtain ⟨x1, x2⟩ := g2.2 i hlt
      have hpi := (hle.2.2 i hlt).2
      rw [show smN (swn s (sR s) (sB s) (sW s)).2.1 (i + 1) = smN (swn s (sR s) (sB s) (sW s)).2.1 i + (swn s (sR s) (sB s) (sW s)).2.1 i from rfl, sum_bars] at ih
      refine pm_iload d171_44 rfl ?_
      refine pm_aload_n (i := 0) d171_46 rfl rfl ?_
      refine pm_getE d171_47 lf_11_154 rfl rfl (g2.1) ?_
      first | refine pm_icmp_geN (tgt := 92) d171_50 rfl (by omega) (by omega) (fun c_50 => ?_) (fun c_50 => ?_) | refine pm_icmp_ge (tgt := 92) d171_50 rfl (fun c_50 => ?_) (fun c_50 => ?_)
      · omega
      · refine pm_iload_n (i := 2) d171_53 rfl rfl ?_
        refine pm_aload_n (i := 0) d171_54 rfl rfl ?_
        refine pm_getR d171_55 lf_11_56 rfl rfl ?_
        refine pm_iload d171_58 rfl ?_
        refine pm_ialdN d171_60 rfl (by decide) (by omega) ?_
        rw [x1]
        first | refine pm_iaddN d171_61 ?_ | refine pm_iadd d171_61 ?_
        refine pm_istore_n (i := 2) (L2 := [(0, _), (1, _), (2, _), (3, _), (4, _)]) d171_62 rfl (by decide) rfl ?_
        refine pm_aload_n (i := 0) d171_63 rfl rfl ?_
        refine pm_getR d171_64 lf_11_59 rfl rfl ?_
        refine pm_iload d171_67 rfl ?_
        refine pm_ialdN d171_69 rfl (by decide) (by omega) ?_
        rw [x2]
        refine pm_iload_n (i := 3) d171_70 rfl rfl ?_
        first | refine pm_icmp_leN (tgt := 84) d171_71 rfl (by omega) (by omega) (fun c_71 => ?_) (fun c_71 => ?_) | refine pm_icmp_le (tgt := 84) d171_71 rfl (fun c_71 => ?_) (fun c_71 => ?_)
        · refine pm_iload_n (i := 3) d171_84 rfl rfl ?_
          refine pm_istore_n (i := 3) (L2 := [(0, _), (1, _), (2, _), (3, _), (4, _)]) d171_85 rfl (by decide) rfl ?_
          first | refine pm_iincN 1 (L2 := [(0, _), (1, _), (2, _), (3, _), (4, _)]) d171_86 rfl (by decide) rfl ?_ | refine pm_iinc (L2 := [(0, _), (1, _), (2, _), (3, _), (4, _)]) d171_86 rfl rfl (by decide) rfl ?_
          refine pm_goto (tgt := 44) d171_89 rfl ?_
          rw [if_neg (by omega)] at ih
          exact ih
        · refine pm_aload_n (i := 0) d171_74 rfl rfl ?_
          refine pm_getR d171_75 lf_11_59 rfl rfl ?_
          refine pm_iload d171_78 rfl ?_
          refine pm_ialdN d171_80 rfl (by decide) (by omega) ?_
          rw [x2]
          refine pm_goto (tgt := 85) d171_81 rfl ?_
          refine pm_istore_n (i := 3) (L2 := [(0, _), (1, _), (2, _), (3, _), (4, _)]) d171_85 rfl (by decide) rfl ?_
          first | refine pm_iincN 1 (L2 := [(0, _), (1, _), (2, _), (3, _), (4, _)]) d171_86 rfl (by decide) rfl ?_ | refine pm_iinc (L2 := [(0, _), (1, _), (2, _), (3, _), (4, _)]) d171_86 rfl rfl (by decide) rfl ?_
          refine pm_goto (tgt := 44) d171_89 rfl ?_
          rw [if_pos (by omega)] at ih
          exact ih
    · have ei : i = (swn s (sR s) (sB s) (sW s)).1 := by omega
      subst ei
      refine pm_iload d171_44 rfl ?_
      refine pm_aload_n (i := 0) d171_46 rfl rfl ?_
      refine pm_getE d171_47 lf_11_154 rfl rfl (g2.1) ?_
      first | refine pm_icmp_geN (tgt := 92) d171_50 rfl (by omega) (by omega) (fun c_50 => ?_) (fun c_50 => ?_) | refine pm_icmp_ge (tgt := 92) d171_50 rfl (fun c_50 => ?_) (fun c_50 => ?_)
      · refine pm_iload_n (i := 1) d171_92 rfl rfl ?_
        first | refine pm_if_neB (tgt := 103) d171_93 rfl (fun c_93 => ?_) (fun c_93 => ?_) | refine pm_if_neN (tgt := 103) d171_93 rfl (by omega) (fun c_93 => ?_) (fun c_93 => ?_) | refine pm_if_ne (tgt := 103) d171_93 rfl (fun c_93 => ?_) (fun c_93 => ?_)
        · refine pm_iload_n (i := 1) d171_103 rfl rfl ?_
          refine pm_iconst (v := nI 1) d171_104 (by decide) ?_
          first | refine pm_icmp_neN (tgt := 112) d171_105 rfl (by omega) (by omega) (fun c_105 => ?_) (fun c_105 => ?_) | refine pm_icmp_ne (tgt := 112) d171_105 rfl (fun c_105 => ?_) (fun c_105 => ?_)
          · refine pm_iload_n (i := 1) d171_112 rfl rfl ?_
            refine pm_iconst (v := nI 2) d171_113 (by decide) ?_
            first | refine pm_icmp_neN (tgt := 121) d171_114 rfl (by omega) (by omega) (fun c_114 => ?_) (fun c_114 => ?_) | refine pm_icmp_ne (tgt := 121) d171_114 rfl (fun c_114 => ?_) (fun c_114 => ?_)
            · refine pm_aload_n (i := 0) d171_121 rfl rfl ?_
              refine pm_callV (k2 := 168) (As := []) d171_122 lk_11_220 ok_168 rfl rfl rfl (Nat.le_of_ble_eq_true rfl) rfl rfl rfl rfl rfl ⟨Nat.le_of_ble_eq_true rfl, Nat.le_of_ble_eq_true rfl⟩ (Nat.le_of_ble_eq_true rfl) ?_
              refine sp_168 hI1 hN1 ?_
              rw [← sum_kp F1 F6]
              refine pm_iret d171_125 rfl (by first | rfl | exact nar_b _) ?_
              rw [show n = 3 by omega] at hh
              exact hh
            · refine pm_iload_n (i := 3) d171_117 rfl rfl ?_
              refine pm_goto (tgt := 125) d171_118 rfl ?_
              refine pm_iret d171_125 rfl (by first | rfl | exact nar_b _) ?_
              rw [show n = 2 by omega] at hh
              exact hh
          · refine pm_iload_n (i := 2) d171_108 rfl rfl ?_
            refine pm_goto (tgt := 125) d171_109 rfl ?_
            refine pm_iret d171_125 rfl (by first | rfl | exact nar_b _) ?_
            rw [show n = 1 by omega] at hh
            exact hh
        · refine pm_aload_n (i := 0) d171_96 rfl rfl ?_
          refine pm_getE d171_97 lf_11_154 rfl rfl (g2.1) ?_
          refine pm_goto (tgt := 125) d171_100 rfl ?_
          refine pm_iret d171_125 rfl (by first | rfl | exact nar_b _) ?_
          rw [show n = 0 by omega] at hh
          exact hh
      · omega
  refine pm_iload_n (i := 1) d171_0 rfl rfl ?_
  refine pm_iconst (v := nI 0) d171_1 (by decide) ?_
  refine pm_iconst (v := nI 3) d171_2 (by decide) ?_
  refine pm_callS (k2 := 113) (As := [_, _, _]) d171_3 lk_11_130 ok_113 rfl rfl rfl (Nat.le_of_ble_eq_true rfl) rfl rfl ⟨Nat.le_of_ble_eq_true rfl, Nat.le_of_ble_eq_true rfl⟩ (Nat.le_of_ble_eq_true rfl) ?_
  refine sp_113 ?_
  rw [wi_def]
  first | refine pm_if_neB (tgt := 13) d171_6 rfl (fun c_6 => ?_) (fun c_6 => ?_) | refine pm_if_neN (tgt := 13) d171_6 rfl (by omega) (fun c_6 => ?_) (fun c_6 => ?_) | refine pm_if_ne (tgt := 13) d171_6 rfl (fun c_6 => ?_) (fun c_6 => ?_)
  · rw [if_pos c_6] at h
    obtain ⟨n, -, hn, rfl⟩ := wi_of (by decide) (by decide) c_6
    rw [ix_nI (show n < 4 by omega) (by decide)] at h 
    refine pm_aload_n (i := 0) d171_13 rfl rfl ?_
    refine pm_callV (k2 := 167) (As := []) d171_14 lk_11_148 ok_167 rfl rfl rfl (Nat.le_of_ble_eq_true rfl) rfl rfl rfl rfl rfl ⟨Nat.le_of_ble_eq_true rfl, Nat.le_of_ble_eq_true rfl⟩ (Nat.le_of_ble_eq_true rfl) ?_
    refine sp_167 hI hL ?_
    refine pm_aload_n (i := 0) d171_17 rfl rfl ?_
    refine pm_getR d171_18 lf_11_7 rfl rfl ?_
    refine pm_iconst (v := nI 3) d171_21 (by decide) ?_
    refine pm_ialdN d171_22 rfl (by decide) (by omega) ?_
    rw [e3]
    first | refine pm_icmp_leN (tgt := 30) d171_23 rfl (by omega) (by omega) (fun c_23 => ?_) (fun c_23 => ?_) | refine pm_icmp_le (tgt := 30) d171_23 rfl (fun c_23 => ?_) (fun c_23 => ?_)
    · have hfit : fits s (sR s) (sB s) := long_fits.mp c_23
      rw [if_pos (by unfold fitB; exact decide_eq_true hfit)] at h
      have hle := swn_le (S := sW s) F1 F6 R1 R2 (show 1 ≤ sB s by omega) hfit 
      refine pm_aload_n (i := 0) d171_30 rfl rfl ?_
      refine pm_sipush (v := nI 432) d171_31 (by decide) ?_
      refine pm_callVv (k2 := 170) (As := [_]) d171_34 lk_11_151 ok_170 rfl rfl rfl (Nat.le_of_ble_eq_true rfl) rfl rfl rfl rfl rfl ⟨Nat.le_of_ble_eq_true rfl, Nat.le_of_ble_eq_true rfl⟩ (Nat.le_of_ble_eq_true rfl) ?_
      refine sp_170 (R := sR s) (m := 432) hI hL R1 R2 (by decide) hfit (fun A2 g1 g2 g3 g4 => ?_)
      refine pm_iconst (v := nI 0) d171_37 (by decide) ?_
      refine pm_istore_n (i := 2) (L2 := [(0, _), (1, _), (2, _)]) d171_38 rfl (by decide) rfl ?_
      refine pm_iconst (v := nI 0) d171_39 (by decide) ?_
      refine pm_istore_n (i := 3) (L2 := [(0, _), (1, _), (2, _), (3, _)]) d171_40 rfl (by decide) rfl ?_
      refine pm_iconst (v := nI 0) d171_41 (by decide) ?_
      refine pm_istore (L2 := [(0, _), (1, _), (2, _), (3, _), (4, _)]) d171_42 (by decide) rfl ?_
      exact lp n (by omega) hfit h A2 g1 g2 (g3 (by omega)).1 0 (Nat.zero_le _)
    · rw [if_neg (by unfold fitB; rw [decide_eq_false (fun q => by have := long_fits.mpr q; omega)]; decide)] at h 
      refine pm_sipush (v := -1002) d171_26 (by decide) ?_
      refine pm_iret d171_29 rfl (by first | rfl | exact nar_b _) ?_
      exact h A hC
  · rw [if_neg (by rw [c_6]; decide)] at h 
    refine pm_sipush (v := -1001) d171_9 (by decide) ?_
    refine pm_iret d171_12 rfl (by first | rfl | exact nar_b _) ?_
    exact h A hC
theorem sp_172 {s : Stt} {R m : Nat} {A : Mem} {Q : Int32 → Mem → Prop} (hI : MI s A) (hR : 10 ≤ R) (hR2 : R ≤ 2000) (hm : m ≤ 1000)
    (h : ∀ A2 : Mem, (∀ c, c ≠ 0 → c ≠ 14 → c ≠ 16 → c ≠ 17 → c ≠ 18 → A2 c = A c) → (∀ j, j ≠ 22 → A2 0 j = A 0 j) → Q (b2i (enough s R (sB s) (sW s) m)) A2) : pm_P 172 0 [(0, .ref 0), (1, .int (nI R)), (2, .int (nI m))] [] A Q := by
  have hb := MI_bd hI
  obtain ⟨F1, F6, R1, R3, B1, B2, W1, -⟩ := hI.1
  have hml : mxN (gK s R) (ns (sF s)) ≤ 4095 := mxN_le (fun j _ => by have := gK_lt s R j; omega)
  have hsm : smN (gK s R) (ns (sF s)) ≤ ns (sF s) * 4095 := smN_bd (fun j _ => by have := gK_lt s R j; omega)
  have e3 : A 1 3 = nI (sB s) := hI.2.2.2.2.2.1
  have hbm : sB s * m ≤ 20000 * 1000 := Nat.mul_le_mul B2 hm
  refine pm_aload_n (i := 0) d172_0 rfl rfl ?_
  refine pm_iload_n (i := 1) d172_1 rfl rfl ?_
  refine pm_callVv (k2 := 127) (As := [_]) d172_2 lk_11_125 ok_127 rfl rfl rfl (Nat.le_of_ble_eq_true rfl) rfl rfl rfl rfl rfl ⟨Nat.le_of_ble_eq_true rfl, Nat.le_of_ble_eq_true rfl⟩ (Nat.le_of_ble_eq_true rfl) ?_
  refine sp_127 F1 F6 hI.2.1.2.2.2.2 hR2 (fun A1 f1 f2 => ?_)
  have hI1 : MI s A1 := MI_keep hI (fun j _ _ => by rw [f1 0 (by decide)]) (fun c _ _ => f1 c (by omega)) (f1 1 (by decide))
  have hh := h A1 (fun c _ c2 _ _ _ => f1 c c2) (fun j _ => by rw [f1 0 (by decide)])
  refine pm_aload_n (i := 0) d172_5 rfl rfl ?_
  refine pm_callV (k2 := 167) (As := []) d172_6 lk_11_148 ok_167 rfl rfl rfl (Nat.le_of_ble_eq_true rfl) rfl rfl rfl rfl rfl ⟨Nat.le_of_ble_eq_true rfl, Nat.le_of_ble_eq_true rfl⟩ (Nat.le_of_ble_eq_true rfl) ?_
  refine sp_167 hI1 f2 ?_
  refine pm_aload_n (i := 0) d172_9 rfl rfl ?_
  refine pm_getR d172_10 lf_11_7 rfl rfl ?_
  refine pm_iconst (v := nI 3) d172_13 (by decide) ?_
  refine pm_ialdN d172_14 rfl (by decide) (by omega) ?_
  rw [f1 1 (by decide), e3]
  first | refine pm_icmp_gtN (tgt := 37) d172_15 rfl (by omega) (by omega) (fun c_15 => ?_) (fun c_15 => ?_) | refine pm_icmp_gt (tgt := 37) d172_15 rfl (fun c_15 => ?_) (fun c_15 => ?_)
  · refine pm_iconst (v := nI 0) d172_37 (by decide) ?_
    refine pm_iret d172_38 rfl (by first | rfl | exact nar_b _) ?_
    have e : enough s R (sB s) (sW s) m = false := by
      unfold enough
      rw [decide_eq_false (fun q => by have := long_fits.mpr q; omega), Bool.false_and]
    rw [e] at hh
    exact hh
  · have hfit : fits s R (sB s) := long_fits.mp c_15 
    refine pm_aload_n (i := 0) d172_18 rfl rfl ?_
    refine pm_callV (k2 := 168) (As := []) d172_19 lk_11_220 ok_168 rfl rfl rfl (Nat.le_of_ble_eq_true rfl) rfl rfl rfl rfl rfl ⟨Nat.le_of_ble_eq_true rfl, Nat.le_of_ble_eq_true rfl⟩ (Nat.le_of_ble_eq_true rfl) ?_
    refine sp_168 hI1 f2 ?_
    first | refine pm_i2lN d172_22 (by omega) ?_ | refine pm_i2l d172_22 rfl ?_
    refine pm_aload_n (i := 0) d172_23 rfl rfl ?_
    refine pm_getR d172_24 lf_11_7 rfl rfl ?_
    refine pm_iconst (v := nI 3) d172_27 (by decide) ?_
    refine pm_ialdN d172_28 rfl (by decide) (by omega) ?_
    rw [f1 1 (by decide), e3]
    first | refine pm_i2lN d172_29 (by omega) ?_ | refine pm_i2l d172_29 rfl ?_
    refine pm_iload_n (i := 2) d172_30 rfl rfl ?_
    first | refine pm_i2lN d172_31 (by omega) ?_ | refine pm_i2l d172_31 rfl ?_
    first | refine pm_lmulN d172_32 ?_ | refine pm_lmul d172_32 ?_
    refine pm_lcmp d172_33 ?_
    refine pm_if_le (tgt := 39) d172_34 rfl (fun c_34 => ?_) (fun c_34 => ?_)
    · refine pm_aload_n (i := 0) d172_39 rfl rfl ?_
      refine pm_iload_n (i := 2) d172_40 rfl rfl ?_
      refine pm_callVv (k2 := 170) (As := [_]) d172_41 lk_11_151 ok_170 rfl rfl rfl (Nat.le_of_ble_eq_true rfl) rfl rfl rfl rfl rfl ⟨Nat.le_of_ble_eq_true rfl, Nat.le_of_ble_eq_true rfl⟩ (Nat.le_of_ble_eq_true rfl) ?_
      refine sp_170 (R := R) (m := m) hI1 f2 hR hR2 hm hfit (fun A2 g1 g2 g3 g4 => ?_)
      have hh2 := h A2 (fun c c1 c2 c3 c4 c5 => by rw [g1 c c1 c3 c4 c5]; exact f1 c c2) (fun j hj => by rw [g2 j hj, f1 0 (by decide)])
      have eE : enough s R (sB s) (sW s) m = decide ((swn s R (sB s) (sW s)).1 ≤ m) := by
        unfold enough
        rw [decide_eq_true hfit, Bool.true_and]
      have hbars : ∃ b, b < 2 ^ 31 ∧ A2 0 22 = nI b ∧ (b ≤ m ↔ (swn s R (sB s) (sW s)).1 ≤ m) := by
        rcases Nat.lt_or_ge m (swn s R (sB s) (sW s)).1 with q | q
        · obtain ⟨b, b1, b2, b3⟩ := g4 q
          exact ⟨b, b2, b3, by omega⟩
        · exact ⟨_, by omega, (g3 q).1.1, Iff.rfl⟩
      obtain ⟨b, b2, b3, b4⟩ := hbars
      refine pm_aload_n (i := 0) d172_44 rfl rfl ?_
      refine pm_getE (v := nI b) d172_45 lf_11_154 rfl rfl (b3) ?_
      refine pm_iload_n (i := 2) d172_48 rfl rfl ?_
      first | refine pm_icmp_gtN (tgt := 56) d172_49 rfl (by omega) (by omega) (fun c_49 => ?_) (fun c_49 => ?_) | refine pm_icmp_gt (tgt := 56) d172_49 rfl (fun c_49 => ?_) (fun c_49 => ?_)
      · refine pm_iconst (v := nI 0) d172_56 (by decide) ?_
        refine pm_iret d172_57 rfl (by first | rfl | exact nar_b _) ?_
        rw [eE, decide_eq_false (fun q => by have := b4.mpr q; omega)] at hh2
        exact hh2
      · refine pm_iconst (v := nI 1) d172_52 (by decide) ?_
        refine pm_goto (tgt := 57) d172_53 rfl ?_
        refine pm_iret d172_57 rfl (by first | rfl | exact nar_b _) ?_
        rw [eE, decide_eq_true (b4.mp c_49)] at hh2
        exact hh2
    · refine pm_iconst (v := nI 0) d172_37 (by decide) ?_
      refine pm_iret d172_38 rfl (by first | rfl | exact nar_b _) ?_
      have e : enough s R (sB s) (sW s) m = false := by
        unfold enough
        rw [decide_eq_false (show ¬ (swn s R (sB s) (sW s)).1 ≤ m from fun q => ?_), Bool.and_false]
        have := (saw_fits (S := sW s) (show 1 ≤ sB s by omega) (fits_ok F1 F6 hR hR2 hfit) q).1
        rw [sum_kp F1 F6] at this
        refine c_34 ?_
        rw [lg_cmp_le, lN_le63 (by omega) (by omega)]
        exact this
      rw [e] at hh
      exact hh
theorem pd_173 {σ : Sig} {v : Int32} {A : Mem} {Q : Int32 → Mem → Prop} (hC : MW σ A) (h : ∀ A2, MW σ A2 → Q (aRadFor σ.1 v) A2) : pm_P 173 0 [(0, .ref 0), (1, .int v)] [] A Q := by
  obtain ⟨s, H, x⟩ := σ
  have hI : MI s A := hC.1
  have hL : LNm s (sR s) A := hC.2.1
  dsimp only at h
  obtain ⟨F1, F6, R1, R2, B1, B2, W1, -⟩ := hI.1
  unfold aRadFor at h
  have e11 : A 1 1 = nI (sR s) := hI.2.2.2.1
  have lp : ∀ m, m ≤ 1000 → (∀ A2, MW (s, H, x) A2 → Q (opI (-1004) (rdn (rfP s m) 2001)) A2) → ∀ n, n ≤ 1991 → ∀ A1 : Mem, (∀ c, c ≠ 0 → c ≠ 14 → c ≠ 16 → c ≠ 17 → c ≠ 18 → A1 c = A c) → (∀ j, j ≠ 22 → A1 0 j = A 0 j) → rdn (rfP s m) 2001 = rdn (rfP s m) (n + 10) → pm_P 173 19 [(0, .ref 0), (1, .int (nI m)), (2, .int (nI (n + 9)))] [] A1 Q := by
    intro m hm hq
    have k40 : ∀ r (A1 : Mem), r ≤ 2000 → (∀ c, c ≠ 0 → c ≠ 14 → c ≠ 16 → c ≠ 17 → c ≠ 18 → A1 c = A c) → (∀ j, j ≠ 22 → A1 0 j = A 0 j) → opI (-1004) (rdn (rfP s m) 2001) = (if r < 10 then -1004 else nI r) → pm_P 173 40 [(0, .ref 0), (1, .int (nI m)), (2, .int (nI r))] [] A1 Q := by
      intro r A1 hr g1 g0 g2
      have hI1 : MI s A1 := MI_keep hI (fun j _ _ => g0 j (by omega)) (fun c _ _ => g1 c (by omega) (by omega) (by omega) (by omega) (by omega)) (g1 1 (by decide) (by decide) (by decide) (by decide) (by decide))
      refine pm_aload_n (i := 0) d173_40 rfl rfl ?_
      refine pm_aload_n (i := 0) d173_41 rfl rfl ?_
      refine pm_getR d173_42 lf_11_7 rfl rfl ?_
      refine pm_iconst (v := nI 1) d173_45 (by decide) ?_
      refine pm_ialdN d173_46 rfl (by decide) (by omega) ?_
      rw [g1 1 (by decide) (by decide) (by decide) (by decide) (by decide), e11]
      refine pm_callVv (k2 := 127) (As := [_]) d173_47 lk_11_125 ok_127 rfl rfl rfl (Nat.le_of_ble_eq_true rfl) rfl rfl rfl rfl rfl ⟨Nat.le_of_ble_eq_true rfl, Nat.le_of_ble_eq_true rfl⟩ (Nat.le_of_ble_eq_true rfl) ?_
      refine sp_127 F1 F6 hI1.2.1.2.2.2.2 R2 (fun A2 f1 f2 => ?_)
      have hW2 : MW (s, H, x) A2 := MW_mk hI.1 (MB_keep hI1.2.1 (fun j _ _ => by rw [f1 0 (by decide)]) (fun c _ _ => f1 c (by omega))) (SM_keep hI1.2.2 (f1 1 (by decide))) f2 (MHi_keep hC.2.2.1 (by rw [f1 0 (by decide)]; exact g0 2 (by decide)) (by rw [f1 2 (by decide)]; exact g1 2 (by decide) (by decide) (by decide) (by decide) (by decide))) (MTx_keep hC.2.2.2.1 (by rw [f1 0 (by decide)]; exact g0 4 (by decide)) (by rw [f1 3 (by decide)]; exact g1 3 (by decide) (by decide) (by decide) (by decide) (by decide))) hC.2.2.2.2
      have hh := hq A2 hW2
      rw [g2] at hh
      refine pm_iload_n (i := 2) d173_50 rfl rfl ?_
      refine pm_bipush (v := nI 10) d173_51 (by decide) ?_
      first | refine pm_icmp_geN (tgt := 62) d173_53 rfl (by omega) (by omega) (fun c_53 => ?_) (fun c_53 => ?_) | refine pm_icmp_ge (tgt := 62) d173_53 rfl (fun c_53 => ?_) (fun c_53 => ?_)
      · refine pm_iload_n (i := 2) d173_62 rfl rfl ?_
        refine pm_iret d173_63 rfl (by first | rfl | exact nar_b _) ?_
        rw [if_neg (by omega)] at hh
        exact hh
      · refine pm_sipush (v := -1004) d173_56 (by decide) ?_
        refine pm_goto (tgt := 63) d173_59 rfl ?_
        refine pm_iret d173_63 rfl (by first | rfl | exact nar_b _) ?_
        rw [if_pos (by omega)] at hh
        exact hh
    intro n
    induction n with
    | zero =>
      intro hn A1 g1 g0 g2
      refine pm_iload_n (i := 2) d173_19 rfl rfl ?_
      refine pm_bipush (v := nI 10) d173_20 (by decide) ?_
      first | refine pm_icmp_ltN (tgt := 40) d173_22 rfl (by omega) (by omega) (fun c_22 => ?_) (fun c_22 => ?_) | refine pm_icmp_lt (tgt := 40) d173_22 rfl (fun c_22 => ?_) (fun c_22 => ?_)
      · refine k40 (0 + 9) A1 (by decide) g1 g0 ?_
        rw [g2, rdn_none 10 (by omega)]
        rfl
      · omega
    | succ n ih =>
      intro hn A1 g1 g0 g2
      have hI1 : MI s A1 := MI_keep hI (fun j _ _ => g0 j (by omega)) (fun c _ _ => g1 c (by omega) (by omega) (by omega) (by omega) (by omega)) (g1 1 (by decide) (by decide) (by decide) (by decide) (by decide))
      rw [show rdn (rfP s m) (n + 1 + 10) = (if rfP s m (n + 10) = true then some (n + 10) else rdn (rfP s m) (n + 10)) from by rw [show n + 1 + 10 = (n + 10) + 1 by omega]; rfl] at g2
      have eP : rfP s m (n + 10) = enough s (n + 10) (sB s) (sW s) m := by
        unfold rfP
        rw [decide_eq_true (show 10 ≤ n + 10 by omega), Bool.true_and]
      rw [show n + 1 + 9 = n + 10 by omega]
      refine pm_iload_n (i := 2) d173_19 rfl rfl ?_
      refine pm_bipush (v := nI 10) d173_20 (by decide) ?_
      first | refine pm_icmp_ltN (tgt := 40) d173_22 rfl (by omega) (by omega) (fun c_22 => ?_) (fun c_22 => ?_) | refine pm_icmp_lt (tgt := 40) d173_22 rfl (fun c_22 => ?_) (fun c_22 => ?_)
      · omega
      · refine pm_aload_n (i := 0) d173_25 rfl rfl ?_
        refine pm_iload_n (i := 2) d173_26 rfl rfl ?_
        refine pm_iload_n (i := 1) d173_27 rfl rfl ?_
        refine pm_callV (k2 := 172) (As := [_, _]) d173_28 lk_11_223 ok_172 rfl rfl rfl (Nat.le_of_ble_eq_true rfl) rfl rfl rfl rfl rfl ⟨Nat.le_of_ble_eq_true rfl, Nat.le_of_ble_eq_true rfl⟩ (Nat.le_of_ble_eq_true rfl) ?_
        refine sp_172 hI1 (by omega) (by omega) hm (fun A2 f1 f2 => ?_)
        have k1 : ∀ c, c ≠ 0 → c ≠ 14 → c ≠ 16 → c ≠ 17 → c ≠ 18 → A2 c = A c := fun c c1 c2 c3 c4 c5 => by rw [f1 c c1 c2 c3 c4 c5]; exact g1 c c1 c2 c3 c4 c5
        have k0 : ∀ j, j ≠ 22 → A2 0 j = A 0 j := fun j hj => by rw [f2 j hj]; exact g0 j hj
        first | refine pm_if_neB (tgt := 40) d173_31 rfl (fun c_31 => ?_) (fun c_31 => ?_) | refine pm_if_neN (tgt := 40) d173_31 rfl (by omega) (fun c_31 => ?_) (fun c_31 => ?_) | refine pm_if_ne (tgt := 40) d173_31 rfl (fun c_31 => ?_) (fun c_31 => ?_)
        · rw [eP, if_pos c_31] at g2
          refine k40 (n + 10) A2 (by omega) k1 k0 ?_
          rw [g2, if_neg (by omega)]
          rfl
        · refine pm_iinc (L2 := [(0, _), (1, _), (2, _)]) (v := nI (n + 9)) d173_34 rfl (nI_dec (n + 9)) (by decide) rfl ?_
          refine pm_goto (tgt := 19) d173_37 rfl ?_
          rw [eP, if_neg (by rw [c_31]; decide)] at g2
          exact ih (by omega) A2 k1 k0 g2
  refine pm_iload_n (i := 1) d173_0 rfl rfl ?_
  refine pm_iconst (v := nI 1) d173_1 (by decide) ?_
  refine pm_sipush (v := nI 1000) d173_2 (by decide) ?_
  refine pm_callS (k2 := 113) (As := [_, _, _]) d173_5 lk_11_130 ok_113 rfl rfl rfl (Nat.le_of_ble_eq_true rfl) rfl rfl ⟨Nat.le_of_ble_eq_true rfl, Nat.le_of_ble_eq_true rfl⟩ (Nat.le_of_ble_eq_true rfl) ?_
  refine sp_113 ?_
  rw [wi_def]
  first | refine pm_if_neB (tgt := 15) d173_8 rfl (fun c_8 => ?_) (fun c_8 => ?_) | refine pm_if_neN (tgt := 15) d173_8 rfl (by omega) (fun c_8 => ?_) (fun c_8 => ?_) | refine pm_if_ne (tgt := 15) d173_8 rfl (fun c_8 => ?_) (fun c_8 => ?_)
  · obtain ⟨m, hm1, hm2, rfl⟩ := wi_of (by decide) (by decide) c_8
    rw [if_pos c_8, nI_clamp (by omega)] at h 
    refine pm_sipush (v := nI 2000) d173_15 (by decide) ?_
    refine pm_istore_n (i := 2) (L2 := [(0, _), (1, _), (2, _)]) d173_18 rfl (by decide) rfl ?_
    exact lp m hm2 h 1991 (by omega) A (fun _ _ _ _ _ _ => rfl) (fun _ _ => rfl) rfl
  · rw [if_neg (by rw [c_8]; decide)] at h 
    refine pm_sipush (v := -1001) d173_11 (by decide) ?_
    refine pm_iret d173_14 rfl (by first | rfl | exact nar_b _) ?_
    exact h A hC
theorem fst_f {p : Nat → Bool} {i : Nat} (h : p i = false) : fst p (i + 1) = fst p i := by
  simp only [fst]
  cases fst p i <;> simp [h]
def pw9 (s : Stt) (q w i : Nat) : Bool := decide (ko (sF s) i = q) && (Nat.beq w 1 || (ks s i && (Nat.beq w 2 || !sM s i)))
theorem pd_159 {σ : Sig} {u v : Int32} {A : Mem} {Q : Int32 → Mem → Prop} (hC : MW σ A) (h : ∀ A2, MW σ A2 → Q (aKind σ.1 u v) A2) : pm_P 159 0 [(0, .ref 0), (1, .int u), (2, .int v)] [] A Q := by
  obtain ⟨s, H, x⟩ := σ
  have hI : MI s A := hC.1
  have hL : LNm s (sR s) A := hC.2.1
  dsimp only at h
  have hb := MI_bd hI
  have hh := h A hC
  unfold aKind at hh
  have fin : ∀ q w, q < nk (sF s) → 1 ≤ w → w < 5 → Q (kndA s q w) A → Q (if w = 4 then nI (fk (sF s) q) else nI (cnt (pw9 s q w) (ns (sF s)))) A := by
    intro q w hq h1 h5 hQ
    rcases (show w = 1 ∨ w = 2 ∨ w = 3 ∨ w = 4 by omega) with rfl | rfl | rfl | rfl
    · rw [if_neg (by decide), show pw9 s q 1 = okind s q false false from by funext i; unfold pw9 okind; rfl]; exact hQ
    · rw [if_neg (by decide), show pw9 s q 2 = okind s q true false from by funext i; unfold pw9 okind; rfl]; exact hQ
    · rw [if_neg (by decide), show pw9 s q 3 = okind s q true true from by funext i; unfold pw9 okind; rfl]; exact hQ
    · rw [if_pos rfl]; exact hQ
  have lp : ∀ q w, q < nk (sF s) → 1 ≤ w → w < 5 → Q (if w = 4 then nI (fk (sF s) q) else nI (cnt (pw9 s q w) (ns (sF s)))) A → ∀ i, i ≤ ns (sF s) → pm_P 159 46 [(0, .ref 0), (1, .int (nI q)), (2, .int (nI w)), (3, .int (nI (cnt (pw9 s q w) i))), (4, .int (opI (-1) (fst (fun i => decide (ko (sF s) i = q)) i))), (5, .int (nI i))] [] A Q := by
    intro q w hq hw1 hw5 hQ
    refine up_ind (fun i hi9 ih => ?_)
    by_cases hlt : i < ns (sF s)
    · have ih := ih hlt
      have hko := (bd_s hI.1.1 hI.1.2.1 hlt).2.2.1
      have k80 : ko (sF s) i = q → ∀ z : Int32, (∀ n : Nat, n = cnt (pw9 s q w) (i + 1) → pm_P 159 46 [(0, .ref 0), (1, .int (nI q)), (2, .int (nI w)), (3, .int (nI n)), (4, .int z), (5, .int (nI (i + 1)))] [] A Q) → pm_P 159 80 [(0, .ref 0), (1, .int (nI q)), (2, .int (nI w)), (3, .int (nI (cnt (pw9 s q w) i))), (4, .int z), (5, .int (nI i))] [] A Q := by
        intro he z hgo
        have hp : pw9 s q w i = (Nat.beq w 1 || (ks s i && (Nat.beq w 2 || !sM s i))) := by
          unfold pw9
          rw [decide_eq_true he, Bool.true_and]
        have b1 : ∀ n, w = n → Nat.beq w n = true := fun n e => by rw [Nat.beq_eq]; exact e
        have b0 : ∀ n, ¬ w = n → Nat.beq w n = false := fun n e => by rw [← Bool.not_eq_true, Nat.beq_eq]; exact e
        refine pm_iload_n (i := 3) d159_80 rfl rfl ?_
        refine pm_iload_n (i := 2) d159_81 rfl rfl ?_
        refine pm_iconst (v := nI 1) d159_82 (by decide) ?_
        first | refine pm_icmp_eqN (tgt := 109) d159_83 rfl (by omega) (by omega) (fun c_83 => ?_) (fun c_83 => ?_) | refine pm_icmp_eq (tgt := 109) d159_83 rfl (fun c_83 => ?_) (fun c_83 => ?_)
        · refine pm_iconst (v := nI 1) d159_109 (by decide) ?_
          refine pm_goto (tgt := 114) d159_110 rfl ?_
          first | refine pm_iaddN d159_114 ?_ | refine pm_iadd d159_114 ?_
          refine pm_istore_n (i := 3) (L2 := [(0, _), (1, _), (2, _), (3, _), (4, _), (5, _)]) d159_115 rfl (by decide) rfl ?_
          first | refine pm_iincN 1 (L2 := [(0, _), (1, _), (2, _), (3, _), (4, _), (5, _)]) d159_116 rfl (by decide) rfl ?_ | refine pm_iinc (L2 := [(0, _), (1, _), (2, _), (3, _), (4, _), (5, _)]) d159_116 rfl rfl (by decide) rfl ?_
          refine pm_goto (tgt := 46) d159_119 rfl ?_
          exact hgo _ (cnt_t (by rw [hp, b1 1 c_83]; rfl)).symm
        · refine pm_aload_n (i := 0) d159_86 rfl rfl ?_
          refine pm_iload d159_87 rfl ?_
          refine pm_callV (k2 := 134) (As := [_]) d159_89 lk_11_166 ok_134 rfl rfl rfl (Nat.le_of_ble_eq_true rfl) rfl rfl rfl rfl rfl ⟨Nat.le_of_ble_eq_true rfl, Nat.le_of_ble_eq_true rfl⟩ (Nat.le_of_ble_eq_true rfl) ?_
          refine sp_134 hI hlt ?_
          first | refine pm_if_eqB (tgt := 113) d159_92 rfl (fun c_92 => ?_) (fun c_92 => ?_) | refine pm_if_eqN (tgt := 113) d159_92 rfl (by omega) (fun c_92 => ?_) (fun c_92 => ?_) | refine pm_if_eq (tgt := 113) d159_92 rfl (fun c_92 => ?_) (fun c_92 => ?_)
          · refine pm_iconst (v := nI 0) d159_113 (by decide) ?_
            first | refine pm_iaddN d159_114 ?_ | refine pm_iadd d159_114 ?_
            refine pm_istore_n (i := 3) (L2 := [(0, _), (1, _), (2, _), (3, _), (4, _), (5, _)]) d159_115 rfl (by decide) rfl ?_
            first | refine pm_iincN 1 (L2 := [(0, _), (1, _), (2, _), (3, _), (4, _), (5, _)]) d159_116 rfl (by decide) rfl ?_ | refine pm_iinc (L2 := [(0, _), (1, _), (2, _), (3, _), (4, _), (5, _)]) d159_116 rfl rfl (by decide) rfl ?_
            refine pm_goto (tgt := 46) d159_119 rfl ?_
            exact hgo _ (cnt_f (by rw [hp, b0 1 c_83, c_92]; rfl)).symm
          · refine pm_iload_n (i := 2) d159_95 rfl rfl ?_
            refine pm_iconst (v := nI 2) d159_96 (by decide) ?_
            first | refine pm_icmp_eqN (tgt := 109) d159_97 rfl (by omega) (by omega) (fun c_97 => ?_) (fun c_97 => ?_) | refine pm_icmp_eq (tgt := 109) d159_97 rfl (fun c_97 => ?_) (fun c_97 => ?_)
            · refine pm_iconst (v := nI 1) d159_109 (by decide) ?_
              refine pm_goto (tgt := 114) d159_110 rfl ?_
              first | refine pm_iaddN d159_114 ?_ | refine pm_iadd d159_114 ?_
              refine pm_istore_n (i := 3) (L2 := [(0, _), (1, _), (2, _), (3, _), (4, _), (5, _)]) d159_115 rfl (by decide) rfl ?_
              first | refine pm_iincN 1 (L2 := [(0, _), (1, _), (2, _), (3, _), (4, _), (5, _)]) d159_116 rfl (by decide) rfl ?_ | refine pm_iinc (L2 := [(0, _), (1, _), (2, _), (3, _), (4, _), (5, _)]) d159_116 rfl rfl (by decide) rfl ?_
              refine pm_goto (tgt := 46) d159_119 rfl ?_
              exact hgo _ (cnt_t (by rw [hp, c_92, b1 2 c_97]; exact Bool.or_true _)).symm
            · refine pm_aload_n (i := 0) d159_100 rfl rfl ?_
              refine pm_iload d159_101 rfl ?_
              refine pm_callV (k2 := 135) (As := [_]) d159_103 lk_11_163 ok_135 rfl rfl rfl (Nat.le_of_ble_eq_true rfl) rfl rfl rfl rfl rfl ⟨Nat.le_of_ble_eq_true rfl, Nat.le_of_ble_eq_true rfl⟩ (Nat.le_of_ble_eq_true rfl) ?_
              refine sp_135 hI (by omega) ?_
              first | refine pm_if_neB (tgt := 113) d159_106 rfl (fun c_106 => ?_) (fun c_106 => ?_) | refine pm_if_neN (tgt := 113) d159_106 rfl (by omega) (fun c_106 => ?_) (fun c_106 => ?_) | refine pm_if_ne (tgt := 113) d159_106 rfl (fun c_106 => ?_) (fun c_106 => ?_)
              · refine pm_iconst (v := nI 0) d159_113 (by decide) ?_
                first | refine pm_iaddN d159_114 ?_ | refine pm_iadd d159_114 ?_
                refine pm_istore_n (i := 3) (L2 := [(0, _), (1, _), (2, _), (3, _), (4, _), (5, _)]) d159_115 rfl (by decide) rfl ?_
                first | refine pm_iincN 1 (L2 := [(0, _), (1, _), (2, _), (3, _), (4, _), (5, _)]) d159_116 rfl (by decide) rfl ?_ | refine pm_iinc (L2 := [(0, _), (1, _), (2, _), (3, _), (4, _), (5, _)]) d159_116 rfl rfl (by decide) rfl ?_
                refine pm_goto (tgt := 46) d159_119 rfl ?_
                exact hgo _ (cnt_f (by rw [hp, b0 1 c_83, c_92, b0 2 c_97, c_106]; rfl)).symm
              · refine pm_iconst (v := nI 1) d159_109 (by decide) ?_
                refine pm_goto (tgt := 114) d159_110 rfl ?_
                first | refine pm_iaddN d159_114 ?_ | refine pm_iadd d159_114 ?_
                refine pm_istore_n (i := 3) (L2 := [(0, _), (1, _), (2, _), (3, _), (4, _), (5, _)]) d159_115 rfl (by decide) rfl ?_
                first | refine pm_iincN 1 (L2 := [(0, _), (1, _), (2, _), (3, _), (4, _), (5, _)]) d159_116 rfl (by decide) rfl ?_ | refine pm_iinc (L2 := [(0, _), (1, _), (2, _), (3, _), (4, _), (5, _)]) d159_116 rfl rfl (by decide) rfl ?_
                refine pm_goto (tgt := 46) d159_119 rfl ?_
                exact hgo _ (cnt_t (by rw [hp, c_92, c_106, Bool.not_false, Bool.or_true, Bool.and_true, Bool.or_true])).symm
      have kno : ¬ ko (sF s) i = q → cnt (pw9 s q w) (i + 1) = cnt (pw9 s q w) i ∧ fst (fun i => decide (ko (sF s) i = q)) (i + 1) = fst (fun i => decide (ko (sF s) i = q)) i := by
        intro he
        refine ⟨cnt_f (by unfold pw9; rw [decide_eq_false he, Bool.false_and]), ?_⟩
        exact fst_f (p := fun i => decide (ko (sF s) i = q)) (decide_eq_false he)
      cases hfs : fst (fun i => decide (ko (sF s) i = q)) i with
      | none =>
        rw [show opI (-1) none = -1 from rfl]
        refine pm_iload d159_46 rfl ?_
        refine pm_aload_n (i := 0) d159_48 rfl rfl ?_
        refine pm_getE d159_49 lf_11_90 rfl rfl (MI_ns hI) ?_
        first | refine pm_icmp_geN (tgt := 122) d159_52 rfl (by omega) (by omega) (fun c_52 => ?_) (fun c_52 => ?_) | refine pm_icmp_ge (tgt := 122) d159_52 rfl (fun c_52 => ?_) (fun c_52 => ?_)
        · omega
        · refine pm_aload_n (i := 0) d159_55 rfl rfl ?_
          refine pm_getR d159_56 lf_11_35 rfl rfl ?_
          refine pm_iload d159_59 rfl ?_
          refine pm_ialdN d159_61 rfl (by decide) (by omega) ?_
          rw [MI_ko hI hlt]
          refine pm_iload_n (i := 1) d159_62 rfl rfl ?_
          first | refine pm_icmp_neN (tgt := 116) d159_63 rfl (by omega) (by omega) (fun c_63 => ?_) (fun c_63 => ?_) | refine pm_icmp_ne (tgt := 116) d159_63 rfl (fun c_63 => ?_) (fun c_63 => ?_)
          · first | refine pm_iincN 1 (L2 := [(0, _), (1, _), (2, _), (3, _), (4, _), (5, _)]) d159_116 rfl (by decide) rfl ?_ | refine pm_iinc (L2 := [(0, _), (1, _), (2, _), (3, _), (4, _), (5, _)]) d159_116 rfl rfl (by decide) rfl ?_
            refine pm_goto (tgt := 46) d159_119 rfl ?_
            obtain ⟨n1, n2⟩ := kno c_63
            rw [n1, n2, hfs] at ih
            exact ih
          · refine pm_iload d159_66 rfl ?_
            refine pm_if_ge (tgt := 76) d159_68 rfl (fun c_68 => ?_) (fun c_68 => ?_)
            · exact absurd c_68 (by decide)
            · refine pm_iload d159_71 rfl ?_
              refine pm_goto (tgt := 78) d159_73 rfl ?_
              refine pm_istore (L2 := [(0, _), (1, _), (2, _), (3, _), (4, _), (5, _)]) d159_78 (by decide) rfl ?_
              refine k80 c_63 _ (fun n hn => ?_)
              have e : fst (fun i => decide (ko (sF s) i = q)) (i + 1) = some i := fst_s (p := fun i => decide (ko (sF s) i = q)) hfs (decide_eq_true c_63) (Nat.lt_succ_self i)
              rw [e] at ih
              rw [hn]
              exact ih
      | some j =>
        have hj := (fst_lt hfs).1
        rw [show opI (-1) (some j) = nI j from rfl]
        refine pm_iload d159_46 rfl ?_
        refine pm_aload_n (i := 0) d159_48 rfl rfl ?_
        refine pm_getE d159_49 lf_11_90 rfl rfl (MI_ns hI) ?_
        first | refine pm_icmp_geN (tgt := 122) d159_52 rfl (by omega) (by omega) (fun c_52 => ?_) (fun c_52 => ?_) | refine pm_icmp_ge (tgt := 122) d159_52 rfl (fun c_52 => ?_) (fun c_52 => ?_)
        · omega
        · refine pm_aload_n (i := 0) d159_55 rfl rfl ?_
          refine pm_getR d159_56 lf_11_35 rfl rfl ?_
          refine pm_iload d159_59 rfl ?_
          refine pm_ialdN d159_61 rfl (by decide) (by omega) ?_
          rw [MI_ko hI hlt]
          refine pm_iload_n (i := 1) d159_62 rfl rfl ?_
          first | refine pm_icmp_neN (tgt := 116) d159_63 rfl (by omega) (by omega) (fun c_63 => ?_) (fun c_63 => ?_) | refine pm_icmp_ne (tgt := 116) d159_63 rfl (fun c_63 => ?_) (fun c_63 => ?_)
          · first | refine pm_iincN 1 (L2 := [(0, _), (1, _), (2, _), (3, _), (4, _), (5, _)]) d159_116 rfl (by decide) rfl ?_ | refine pm_iinc (L2 := [(0, _), (1, _), (2, _), (3, _), (4, _), (5, _)]) d159_116 rfl rfl (by decide) rfl ?_
            refine pm_goto (tgt := 46) d159_119 rfl ?_
            obtain ⟨n1, n2⟩ := kno c_63
            rw [n1, n2, hfs] at ih
            exact ih
          · refine pm_iload d159_66 rfl ?_
            refine pm_if_ge (tgt := 76) d159_68 rfl (fun c_68 => ?_) (fun c_68 => ?_)
            · refine pm_iload d159_76 rfl ?_
              refine pm_istore (L2 := [(0, _), (1, _), (2, _), (3, _), (4, _), (5, _)]) d159_78 (by decide) rfl ?_
              refine k80 c_63 _ (fun n hn => ?_)
              have e : fst (fun i => decide (ko (sF s) i = q)) (i + 1) = some j := by
                simp only [fst]
                rw [hfs]
              rw [e] at ih
              rw [hn]
              exact ih
            · exact absurd (nI_pos' (by omega)) c_68
    · have ei : i = ns (sF s) := by omega
      subst ei
      rw [fk_fst hI.1.1 hI.1.2.1 hq]
      refine pm_iload d159_46 rfl ?_
      refine pm_aload_n (i := 0) d159_48 rfl rfl ?_
      refine pm_getE d159_49 lf_11_90 rfl rfl (MI_ns hI) ?_
      first | refine pm_icmp_geN (tgt := 122) d159_52 rfl (by omega) (by omega) (fun c_52 => ?_) (fun c_52 => ?_) | refine pm_icmp_ge (tgt := 122) d159_52 rfl (fun c_52 => ?_) (fun c_52 => ?_)
      · refine pm_iload_n (i := 2) d159_122 rfl rfl ?_
        refine pm_iconst (v := nI 4) d159_123 (by decide) ?_
        first | refine pm_icmp_neN (tgt := 132) d159_124 rfl (by omega) (by omega) (fun c_124 => ?_) (fun c_124 => ?_) | refine pm_icmp_ne (tgt := 132) d159_124 rfl (fun c_124 => ?_) (fun c_124 => ?_)
        · refine pm_iload_n (i := 3) d159_132 rfl rfl ?_
          refine pm_iret d159_133 rfl (by first | rfl | exact nar_b _) ?_
          rw [if_neg c_124] at hQ
          exact hQ
        · refine pm_iload d159_127 rfl ?_
          refine pm_goto (tgt := 133) d159_129 rfl ?_
          refine pm_iret d159_133 rfl (by first | rfl | exact nar_b _) ?_
          rw [if_pos c_124] at hQ
          exact hQ
      · omega
  refine pm_iload_n (i := 1) d159_0 rfl rfl ?_
  refine pm_iconst (v := nI 0) d159_1 (by decide) ?_
  refine pm_aload_n (i := 0) d159_2 rfl rfl ?_
  refine pm_getE d159_3 lf_11_100 rfl rfl (MI_nk hI) ?_
  refine pm_iconst (v := nI 1) d159_6 (by decide) ?_
  refine pm_isub d159_7 ?_
  refine pm_callS (k2 := 113) (As := [_, _, _]) d159_8 lk_11_130 ok_113 rfl rfl rfl (Nat.le_of_ble_eq_true rfl) rfl rfl ⟨Nat.le_of_ble_eq_true rfl, Nat.le_of_ble_eq_true rfl⟩ (Nat.le_of_ble_eq_true rfl) ?_
  refine sp_113 ?_
  rw [show (decide (nI 0 ≤ u) && decide (u ≤ nI (nk (sF s)) - nI 1)) = inN u (nk (sF s)) from rfl]
  first | refine pm_if_eqB (tgt := 23) d159_11 rfl (fun c_11 => ?_) (fun c_11 => ?_) | refine pm_if_eqN (tgt := 23) d159_11 rfl (by omega) (fun c_11 => ?_) (fun c_11 => ?_) | refine pm_if_eq (tgt := 23) d159_11 rfl (fun c_11 => ?_) (fun c_11 => ?_)
  · rw [if_neg (by rw [c_11]; decide)] at hh 
    refine pm_sipush (v := -1001) d159_23 (by decide) ?_
    refine pm_iret d159_26 rfl (by first | rfl | exact nar_b _) ?_
    exact hh
  · obtain ⟨q, hq, rfl⟩ := inN_of (by omega) (by omega) c_11
    rw [if_pos c_11, nI_clamp (by omega)] at hh 
    refine pm_iload_n (i := 2) d159_14 rfl rfl ?_
    refine pm_iconst (v := nI 0) d159_15 (by decide) ?_
    refine pm_iconst (v := nI 4) d159_16 (by decide) ?_
    refine pm_callS (k2 := 113) (As := [_, _, _]) d159_17 lk_11_130 ok_113 rfl rfl rfl (Nat.le_of_ble_eq_true rfl) rfl rfl ⟨Nat.le_of_ble_eq_true rfl, Nat.le_of_ble_eq_true rfl⟩ (Nat.le_of_ble_eq_true rfl) ?_
    refine sp_113 ?_
    rw [wi_def, wi_inN]
    first | refine pm_if_neB (tgt := 27) d159_20 rfl (fun c_20 => ?_) (fun c_20 => ?_) | refine pm_if_neN (tgt := 27) d159_20 rfl (by omega) (fun c_20 => ?_) (fun c_20 => ?_) | refine pm_if_ne (tgt := 27) d159_20 rfl (fun c_20 => ?_) (fun c_20 => ?_)
    · obtain ⟨w, hw, rfl⟩ := inN_of (by decide) (by decide) c_20
      rw [ix_nI hw (by decide)] at hh 
      refine pm_iload_n (i := 2) d159_27 rfl rfl ?_
      first | refine pm_if_neB (tgt := 38) d159_28 rfl (fun c_28 => ?_) (fun c_28 => ?_) | refine pm_if_neN (tgt := 38) d159_28 rfl (by omega) (fun c_28 => ?_) (fun c_28 => ?_) | refine pm_if_ne (tgt := 38) d159_28 rfl (fun c_28 => ?_) (fun c_28 => ?_)
      · refine pm_iconst (v := nI 0) d159_38 (by decide) ?_
        refine pm_istore_n (i := 3) (L2 := [(0, _), (1, _), (2, _), (3, _)]) d159_39 rfl (by decide) rfl ?_
        refine pm_iconst (v := -1) d159_40 (by decide) ?_
        refine pm_istore (L2 := [(0, _), (1, _), (2, _), (3, _), (4, _)]) d159_41 (by decide) rfl ?_
        refine pm_iconst (v := nI 0) d159_43 (by decide) ?_
        refine pm_istore (L2 := [(0, _), (1, _), (2, _), (3, _), (4, _), (5, _)]) d159_44 (by decide) rfl ?_
        exact lp q w hq (by omega) hw (fin q w hq (by omega) hw hh) 0 (Nat.zero_le _)
      · refine pm_aload_n (i := 0) d159_31 rfl rfl ?_
        refine pm_getR d159_32 lf_11_50 rfl rfl ?_
        refine pm_iload_n (i := 1) d159_35 rfl rfl ?_
        refine pm_ialdN d159_36 rfl (by decide) (by omega) ?_
        rw [hL q hq]
        refine pm_iret d159_37 rfl (by first | rfl | exact nar_b _) ?_
        rw [show w = 0 by omega] at hh
        exact hh
    · rw [ix_f c_20] at hh 
      refine pm_sipush (v := -1001) d159_23 (by decide) ?_
      refine pm_iret d159_26 rfl (by first | rfl | exact nar_b _) ?_
      exact hh
theorem pd_160 {σ : Sig} {u v : Int32} {A : Mem} {Q : Int32 → Mem → Prop} (hC : MW σ A) (h : ∀ A2, MW σ A2 → Q (aFace σ.1 u v) A2) : pm_P 160 0 [(0, .ref 0), (1, .int u), (2, .int v)] [] A Q := by
  obtain ⟨s, H, x⟩ := σ
  have hI : MI s A := hC.1
  have hL : LNm s (sR s) A := hC.2.1
  dsimp only at h
  have hb := MI_bd hI
  have hh := h A hC
  unfold aFace at hh
  refine pm_iload_n (i := 1) d160_0 rfl rfl ?_
  refine pm_iconst (v := nI 0) d160_1 (by decide) ?_
  refine pm_aload_n (i := 0) d160_2 rfl rfl ?_
  refine pm_getE d160_3 lf_11_97 rfl rfl (MI_nf hI) ?_
  refine pm_iconst (v := nI 1) d160_6 (by decide) ?_
  refine pm_isub d160_7 ?_
  refine pm_callS (k2 := 113) (As := [_, _, _]) d160_8 lk_11_130 ok_113 rfl rfl rfl (Nat.le_of_ble_eq_true rfl) rfl rfl ⟨Nat.le_of_ble_eq_true rfl, Nat.le_of_ble_eq_true rfl⟩ (Nat.le_of_ble_eq_true rfl) ?_
  refine sp_113 ?_
  rw [show (decide (nI 0 ≤ u) && decide (u ≤ nI (nf (sF s)) - nI 1)) = inN u (nf (sF s)) from rfl]
  first | refine pm_if_eqB (tgt := 24) d160_11 rfl (fun c_11 => ?_) (fun c_11 => ?_) | refine pm_if_eqN (tgt := 24) d160_11 rfl (by omega) (fun c_11 => ?_) (fun c_11 => ?_) | refine pm_if_eq (tgt := 24) d160_11 rfl (fun c_11 => ?_) (fun c_11 => ?_)
  · rw [if_neg (by rw [c_11]; decide)] at hh 
    refine pm_sipush (v := -1001) d160_24 (by decide) ?_
    refine pm_iret d160_27 rfl (by first | rfl | exact nar_b _) ?_
    exact hh
  · obtain ⟨i, hi9, rfl⟩ := inN_of (by omega) (by omega) c_11
    rw [if_pos c_11, nI_clamp (by omega)] at hh
    have s0 := (bd_f hI.1.1 hI.1.2.1 (i := 3 * i) (by omega)).2
    have s1 := (bd_f hI.1.1 hI.1.2.1 (i := 3 * i + 1) (by omega)).2
    have s2 := (bd_f hI.1.1 hI.1.2.1 (i := 3 * i + 2) (by omega)).2
    have q0 := (bd_s hI.1.1 hI.1.2.1 s0).2.2.1
    have q1 := (bd_s hI.1.1 hI.1.2.1 s1).2.2.1
    have q2 := (bd_s hI.1.1 hI.1.2.1 s2).2.2.1 
    refine pm_iload_n (i := 2) d160_14 rfl rfl ?_
    refine pm_iconst (v := nI 0) d160_15 (by decide) ?_
    refine pm_bipush (v := nI 6) d160_16 (by decide) ?_
    refine pm_callS (k2 := 113) (As := [_, _, _]) d160_18 lk_11_130 ok_113 rfl rfl rfl (Nat.le_of_ble_eq_true rfl) rfl rfl ⟨Nat.le_of_ble_eq_true rfl, Nat.le_of_ble_eq_true rfl⟩ (Nat.le_of_ble_eq_true rfl) ?_
    refine sp_113 ?_
    rw [wi_def, wi_inN]
    first | refine pm_if_neB (tgt := 28) d160_21 rfl (fun c_21 => ?_) (fun c_21 => ?_) | refine pm_if_neN (tgt := 28) d160_21 rfl (by omega) (fun c_21 => ?_) (fun c_21 => ?_) | refine pm_if_ne (tgt := 28) d160_21 rfl (fun c_21 => ?_) (fun c_21 => ?_)
    · refine pm_aload_n (i := 0) d160_28 rfl rfl ?_
      refine pm_getR d160_29 lf_11_35 rfl rfl ?_
      refine pm_aload_n (i := 0) d160_32 rfl rfl ?_
      refine pm_iload_n (i := 1) d160_33 rfl rfl ?_
      refine pm_iconst (v := nI 0) d160_34 (by decide) ?_
      refine pm_callV (k2 := 137) (As := [_, _]) d160_35 lk_11_160 ok_137 rfl rfl rfl (Nat.le_of_ble_eq_true rfl) rfl rfl rfl rfl rfl ⟨Nat.le_of_ble_eq_true rfl, Nat.le_of_ble_eq_true rfl⟩ (Nat.le_of_ble_eq_true rfl) ?_
      refine sp_137 (j := 0) hI hi9 (by decide) ?_
      rw [show 3 * i + 0 = 3 * i from rfl]
      refine pm_ialdN d160_38 rfl (by decide) (by omega) ?_
      rw [MI_ko hI s0]
      refine pm_istore_n (i := 3) (L2 := [(0, _), (1, _), (2, _), (3, _)]) d160_39 rfl (by decide) rfl ?_
      refine pm_aload_n (i := 0) d160_40 rfl rfl ?_
      refine pm_getR d160_41 lf_11_35 rfl rfl ?_
      refine pm_aload_n (i := 0) d160_44 rfl rfl ?_
      refine pm_iload_n (i := 1) d160_45 rfl rfl ?_
      refine pm_iconst (v := nI 1) d160_46 (by decide) ?_
      refine pm_callV (k2 := 137) (As := [_, _]) d160_47 lk_11_160 ok_137 rfl rfl rfl (Nat.le_of_ble_eq_true rfl) rfl rfl rfl rfl rfl ⟨Nat.le_of_ble_eq_true rfl, Nat.le_of_ble_eq_true rfl⟩ (Nat.le_of_ble_eq_true rfl) ?_
      refine sp_137 (j := 1) hI hi9 (by decide) ?_
      refine pm_ialdN d160_50 rfl (by decide) (by omega) ?_
      rw [MI_ko hI s1]
      refine pm_istore (L2 := [(0, _), (1, _), (2, _), (3, _), (4, _)]) d160_51 (by decide) rfl ?_
      refine pm_aload_n (i := 0) d160_53 rfl rfl ?_
      refine pm_getR d160_54 lf_11_35 rfl rfl ?_
      refine pm_aload_n (i := 0) d160_57 rfl rfl ?_
      refine pm_iload_n (i := 1) d160_58 rfl rfl ?_
      refine pm_iconst (v := nI 2) d160_59 (by decide) ?_
      refine pm_callV (k2 := 137) (As := [_, _]) d160_60 lk_11_160 ok_137 rfl rfl rfl (Nat.le_of_ble_eq_true rfl) rfl rfl rfl rfl rfl ⟨Nat.le_of_ble_eq_true rfl, Nat.le_of_ble_eq_true rfl⟩ (Nat.le_of_ble_eq_true rfl) ?_
      refine sp_137 (j := 2) hI hi9 (by decide) ?_
      refine pm_ialdN d160_63 rfl (by decide) (by omega) ?_
      rw [MI_ko hI s2]
      refine pm_istore (L2 := [(0, _), (1, _), (2, _), (3, _), (4, _), (5, _)]) d160_64 (by decide) rfl ?_
      refine pm_iload_n (i := 2) d160_66 rfl rfl ?_
      by_cases hx3 : v = nI 3
      · subst hx3
        rw [ix_nI (by decide) (by decide)] at hh
        refine pm_swIn (off := 29) (tgt := 96) d160_67 (by decide) (by decide) rfl rfl ?_
        refine pm_aload_n (i := 0) d160_96 rfl rfl ?_
        refine pm_iload_n (i := 1) d160_97 rfl rfl ?_
        refine pm_callV (k2 := 136) (As := [_]) d160_98 lk_11_157 ok_136 rfl rfl rfl (Nat.le_of_ble_eq_true rfl) rfl rfl rfl rfl rfl ⟨Nat.le_of_ble_eq_true rfl, Nat.le_of_ble_eq_true rfl⟩ (Nat.le_of_ble_eq_true rfl) ?_
        refine sp_136 hI hi9 ?_
        first | refine pm_if_eqB (tgt := 108) d160_101 rfl (fun c_101 => ?_) (fun c_101 => ?_) | refine pm_if_eqN (tgt := 108) d160_101 rfl (by omega) (fun c_101 => ?_) (fun c_101 => ?_) | refine pm_if_eq (tgt := 108) d160_101 rfl (fun c_101 => ?_) (fun c_101 => ?_)
        · refine pm_iconst (v := nI 0) d160_108 (by decide) ?_
          refine pm_iret d160_109 rfl (by first | rfl | exact nar_b _) ?_
          have hh : Q (b2i (kf s i)) A := hh
          rw [c_101] at hh
          exact hh
        · refine pm_iconst (v := nI 1) d160_104 (by decide) ?_
          refine pm_goto (tgt := 109) d160_105 rfl ?_
          refine pm_iret d160_109 rfl (by first | rfl | exact nar_b _) ?_
          have hh : Q (b2i (kf s i)) A := hh
          rw [c_101] at hh
          exact hh
      by_cases hx4 : v = nI 4
      · subst hx4
        rw [ix_nI (by decide) (by decide)] at hh
        refine pm_swIn (off := 43) (tgt := 110) d160_67 (by decide) (by decide) rfl rfl ?_
        refine pm_aload_n (i := 0) d160_110 rfl rfl ?_
        refine pm_iload_n (i := 1) d160_111 rfl rfl ?_
        refine pm_callV (k2 := 136) (As := [_]) d160_112 lk_11_157 ok_136 rfl rfl rfl (Nat.le_of_ble_eq_true rfl) rfl rfl rfl rfl rfl ⟨Nat.le_of_ble_eq_true rfl, Nat.le_of_ble_eq_true rfl⟩ (Nat.le_of_ble_eq_true rfl) ?_
        refine sp_136 hI hi9 ?_
        first | refine pm_if_eqB (tgt := 130) d160_115 rfl (fun c_115 => ?_) (fun c_115 => ?_) | refine pm_if_eqN (tgt := 130) d160_115 rfl (by omega) (fun c_115 => ?_) (fun c_115 => ?_) | refine pm_if_eq (tgt := 130) d160_115 rfl (fun c_115 => ?_) (fun c_115 => ?_)
        · refine pm_iconst (v := nI 0) d160_130 (by decide) ?_
          refine pm_iret d160_131 rfl (by first | rfl | exact nar_b _) ?_
          have hh : Q (b2i (cf s i)) A := hh
          rw [show cf s i = false by unfold cf; rw [c_115]; rfl] at hh
          exact hh
        · refine pm_aload_n (i := 0) d160_118 rfl rfl ?_
          refine pm_iload_n (i := 1) d160_119 rfl rfl ?_
          refine pm_callV (k2 := 138) (As := [_]) d160_120 lk_11_169 ok_138 rfl rfl rfl (Nat.le_of_ble_eq_true rfl) rfl rfl rfl rfl rfl ⟨Nat.le_of_ble_eq_true rfl, Nat.le_of_ble_eq_true rfl⟩ (Nat.le_of_ble_eq_true rfl) ?_
          refine sp_138 hI hi9 ?_
          first | refine pm_if_neB (tgt := 130) d160_123 rfl (fun c_123 => ?_) (fun c_123 => ?_) | refine pm_if_neN (tgt := 130) d160_123 rfl (by omega) (fun c_123 => ?_) (fun c_123 => ?_) | refine pm_if_ne (tgt := 130) d160_123 rfl (fun c_123 => ?_) (fun c_123 => ?_)
          · refine pm_iconst (v := nI 0) d160_130 (by decide) ?_
            refine pm_iret d160_131 rfl (by first | rfl | exact nar_b _) ?_
            have hh : Q (b2i (cf s i)) A := hh
            have e : cf s i = false := by
              unfold hf9 at c_123
              cases e : cf s i with
              | false => rfl
              | true => rw [e, Bool.not_true, Bool.and_false] at c_123; cases c_123
            rw [e] at hh
            exact hh
          · refine pm_iconst (v := nI 1) d160_126 (by decide) ?_
            refine pm_goto (tgt := 131) d160_127 rfl ?_
            refine pm_iret d160_131 rfl (by first | rfl | exact nar_b _) ?_
            have hh : Q (b2i (cf s i)) A := hh
            have e : cf s i = true := by
              unfold hf9 at c_123
              rw [c_115, Bool.true_and] at c_123
              simpa using c_123
            rw [e] at hh
            exact hh
      by_cases hx5 : v = nI 5
      · subst hx5
        rw [ix_nI (by decide) (by decide)] at hh
        refine pm_swIn (off := 65) (tgt := 132) d160_67 (by decide) (by decide) rfl rfl ?_
        refine pm_iload_n (i := 3) d160_132 rfl rfl ?_
        refine pm_iload d160_133 rfl ?_
        first | refine pm_icmp_neN (tgt := 149) d160_135 rfl (by omega) (by omega) (fun c_135 => ?_) (fun c_135 => ?_) | refine pm_icmp_ne (tgt := 149) d160_135 rfl (fun c_135 => ?_) (fun c_135 => ?_)
        · refine pm_iload_n (i := 3) d160_149 rfl rfl ?_
          refine pm_iload d160_150 rfl ?_
          first | refine pm_icmp_eqN (tgt := 168) d160_152 rfl (by omega) (by omega) (fun c_152 => ?_) (fun c_152 => ?_) | refine pm_icmp_eq (tgt := 168) d160_152 rfl (fun c_152 => ?_) (fun c_152 => ?_)
          · refine pm_iconst (v := nI 2) d160_168 (by decide) ?_
            refine pm_goto (tgt := 173) d160_169 rfl ?_
            refine pm_iret d160_173 rfl (by first | rfl | exact nar_b _) ?_
            have hh : Q (nI (kof (sF s) i)) A := hh
            rw [show kof (sF s) i = 2 by unfold kof; split <;> split <;> omega] at hh
            exact hh
          · refine pm_iload d160_155 rfl ?_
            refine pm_iload d160_157 rfl ?_
            first | refine pm_icmp_eqN (tgt := 168) d160_159 rfl (by omega) (by omega) (fun c_159 => ?_) (fun c_159 => ?_) | refine pm_icmp_eq (tgt := 168) d160_159 rfl (fun c_159 => ?_) (fun c_159 => ?_)
            · refine pm_iconst (v := nI 2) d160_168 (by decide) ?_
              refine pm_goto (tgt := 173) d160_169 rfl ?_
              refine pm_iret d160_173 rfl (by first | rfl | exact nar_b _) ?_
              have hh : Q (nI (kof (sF s) i)) A := hh
              rw [show kof (sF s) i = 2 by unfold kof; split <;> split <;> omega] at hh
              exact hh
            · refine pm_iload_n (i := 3) d160_162 rfl rfl ?_
              refine pm_iload d160_163 rfl ?_
              first | refine pm_icmp_neN (tgt := 172) d160_165 rfl (by omega) (by omega) (fun c_165 => ?_) (fun c_165 => ?_) | refine pm_icmp_ne (tgt := 172) d160_165 rfl (fun c_165 => ?_) (fun c_165 => ?_)
              · refine pm_iconst (v := nI 3) d160_172 (by decide) ?_
                refine pm_iret d160_173 rfl (by first | rfl | exact nar_b _) ?_
                have hh : Q (nI (kof (sF s) i)) A := hh
                rw [show kof (sF s) i = 3 by unfold kof; split <;> split <;> omega] at hh
                exact hh
              · refine pm_iconst (v := nI 2) d160_168 (by decide) ?_
                refine pm_goto (tgt := 173) d160_169 rfl ?_
                refine pm_iret d160_173 rfl (by first | rfl | exact nar_b _) ?_
                have hh : Q (nI (kof (sF s) i)) A := hh
                rw [show kof (sF s) i = 2 by unfold kof; split <;> split <;> omega] at hh
                exact hh
        · refine pm_iload d160_138 rfl ?_
          refine pm_iload d160_140 rfl ?_
          first | refine pm_icmp_neN (tgt := 149) d160_142 rfl (by omega) (by omega) (fun c_142 => ?_) (fun c_142 => ?_) | refine pm_icmp_ne (tgt := 149) d160_142 rfl (fun c_142 => ?_) (fun c_142 => ?_)
          · refine pm_iload_n (i := 3) d160_149 rfl rfl ?_
            refine pm_iload d160_150 rfl ?_
            first | refine pm_icmp_eqN (tgt := 168) d160_152 rfl (by omega) (by omega) (fun c_152 => ?_) (fun c_152 => ?_) | refine pm_icmp_eq (tgt := 168) d160_152 rfl (fun c_152 => ?_) (fun c_152 => ?_)
            · refine pm_iconst (v := nI 2) d160_168 (by decide) ?_
              refine pm_goto (tgt := 173) d160_169 rfl ?_
              refine pm_iret d160_173 rfl (by first | rfl | exact nar_b _) ?_
              have hh : Q (nI (kof (sF s) i)) A := hh
              rw [show kof (sF s) i = 2 by unfold kof; split <;> split <;> omega] at hh
              exact hh
            · refine pm_iload d160_155 rfl ?_
              refine pm_iload d160_157 rfl ?_
              first | refine pm_icmp_eqN (tgt := 168) d160_159 rfl (by omega) (by omega) (fun c_159 => ?_) (fun c_159 => ?_) | refine pm_icmp_eq (tgt := 168) d160_159 rfl (fun c_159 => ?_) (fun c_159 => ?_)
              · refine pm_iconst (v := nI 2) d160_168 (by decide) ?_
                refine pm_goto (tgt := 173) d160_169 rfl ?_
                refine pm_iret d160_173 rfl (by first | rfl | exact nar_b _) ?_
                have hh : Q (nI (kof (sF s) i)) A := hh
                rw [show kof (sF s) i = 2 by unfold kof; split <;> split <;> omega] at hh
                exact hh
              · refine pm_iload_n (i := 3) d160_162 rfl rfl ?_
                refine pm_iload d160_163 rfl ?_
                first | refine pm_icmp_neN (tgt := 172) d160_165 rfl (by omega) (by omega) (fun c_165 => ?_) (fun c_165 => ?_) | refine pm_icmp_ne (tgt := 172) d160_165 rfl (fun c_165 => ?_) (fun c_165 => ?_)
                · refine pm_iconst (v := nI 3) d160_172 (by decide) ?_
                  refine pm_iret d160_173 rfl (by first | rfl | exact nar_b _) ?_
                  have hh : Q (nI (kof (sF s) i)) A := hh
                  rw [show kof (sF s) i = 3 by unfold kof; split <;> split <;> omega] at hh
                  exact hh
                · refine pm_iconst (v := nI 2) d160_168 (by decide) ?_
                  refine pm_goto (tgt := 173) d160_169 rfl ?_
                  refine pm_iret d160_173 rfl (by first | rfl | exact nar_b _) ?_
                  have hh : Q (nI (kof (sF s) i)) A := hh
                  rw [show kof (sF s) i = 2 by unfold kof; split <;> split <;> omega] at hh
                  exact hh
          · refine pm_iconst (v := nI 1) d160_145 (by decide) ?_
            refine pm_goto (tgt := 173) d160_146 rfl ?_
            refine pm_iret d160_173 rfl (by first | rfl | exact nar_b _) ?_
            have hh : Q (nI (kof (sF s) i)) A := hh
            rw [show kof (sF s) i = 1 by unfold kof; rw [if_pos (by omega), if_pos (by omega)]] at hh
            exact hh
      by_cases hx6 : v = nI 6
      · subst hx6
        rw [ix_nI (by decide) (by decide)] at hh
        refine pm_swIn (off := 107) (tgt := 174) d160_67 (by decide) (by decide) rfl rfl ?_
        refine pm_aload_n (i := 0) d160_174 rfl rfl ?_
        refine pm_getR d160_175 lf_11_50 rfl rfl ?_
        refine pm_iload_n (i := 3) d160_178 rfl rfl ?_
        refine pm_ialdN d160_179 rfl (by decide) (by omega) ?_
        rw [hL _ q0]
        refine pm_aload_n (i := 0) d160_180 rfl rfl ?_
        refine pm_getR d160_181 lf_11_50 rfl rfl ?_
        refine pm_iload d160_184 rfl ?_
        refine pm_ialdN d160_186 rfl (by decide) (by omega) ?_
        rw [hL _ q1]
        first | refine pm_iaddN d160_187 ?_ | refine pm_iadd d160_187 ?_
        refine pm_aload_n (i := 0) d160_188 rfl rfl ?_
        refine pm_getR d160_189 lf_11_50 rfl rfl ?_
        refine pm_iload d160_192 rfl ?_
        refine pm_ialdN d160_194 rfl (by decide) (by omega) ?_
        rw [hL _ q2]
        first | refine pm_iaddN d160_195 ?_ | refine pm_iadd d160_195 ?_
        refine pm_iret d160_196 rfl (by first | rfl | exact nar_b _) ?_
        exact hh
      obtain ⟨n, hn, rfl⟩ := inN_of (by decide) (by decide) c_21
      have n3 : ¬ n = 3 := fun q => hx3 (by rw [q])
      have n4 : ¬ n = 4 := fun q => hx4 (by rw [q])
      have n5 : ¬ n = 5 := fun q => hx5 (by rw [q])
      have n6 : ¬ n = 6 := fun q => hx6 (by rw [q])
      rw [ix_nI hn (by decide)] at hh
      have hn3 : n < 3 := by omega
      refine pm_swOut (tgt := 197) d160_67 (Or.inl (by rw [nI_toInt (by omega)]; omega)) rfl ?_
      refine pm_aload_n (i := 0) d160_197 rfl rfl ?_
      refine pm_getR d160_198 lf_11_47 rfl rfl ?_
      refine pm_iconst (v := nI 3) d160_201 (by decide) ?_
      refine pm_iload_n (i := 1) d160_202 rfl rfl ?_
      first | refine pm_imulN d160_203 ?_ | refine pm_imul d160_203 ?_
      refine pm_iload_n (i := 2) d160_204 rfl rfl ?_
      first | refine pm_iaddN d160_205 ?_ | refine pm_iadd d160_205 ?_
      refine pm_ialdN d160_206 rfl (by decide) (by omega) ?_
      rw [MI_co hI (by omega)]
      refine pm_iret d160_207 rfl (by first | rfl | exact nar_b _) ?_
      rcases (show n = 0 ∨ n = 1 ∨ n = 2 by omega) with rfl | rfl | rfl
      · exact hh
      · exact hh
      · exact hh
    · rw [ix_f c_21] at hh 
      refine pm_sipush (v := -1001) d160_24 (by decide) ?_
      refine pm_iret d160_27 rfl (by first | rfl | exact nar_b _) ?_
      exact hh
