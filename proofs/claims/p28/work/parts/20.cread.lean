/-! the class's answers that change nothing: what is kept, missing, closed -/
theorem sp_84 {A : Mem} {Q : Int32 → Mem → Prop} {v a b : Int32} (h : Q (b2i (decide (a ≤ v) && decide (v ≤ b))) A) : pm_P 84 0 [(0, .int v), (1, .int a), (2, .int b)] [] A Q := by
  refine pm_iload_n (i := 0) d84_0 rfl rfl ?_
  refine pm_iload_n (i := 1) d84_1 rfl rfl ?_
  first | refine pm_icmp_ltN (tgt := 14) d84_2 rfl (by omega) (by omega) (fun c_2 => ?_) (fun c_2 => ?_) | refine pm_icmp_lt (tgt := 14) d84_2 rfl (fun c_2 => ?_) (fun c_2 => ?_)
  · have e : (decide (a ≤ v) && decide (v ≤ b)) = false := by
      rw [decide_eq_false (Int32.not_le.mpr c_2)]; rfl
    rw [e] at h
    refine pm_iconst (v := nI 0) d84_14 (by decide) ?_
    exact pm_iret d84_15 rfl rfl h
  · refine pm_iload_n (i := 0) d84_5 rfl rfl ?_
    refine pm_iload_n (i := 2) d84_6 rfl rfl ?_
    first | refine pm_icmp_gtN (tgt := 14) d84_7 rfl (by omega) (by omega) (fun c_7 => ?_) (fun c_7 => ?_) | refine pm_icmp_gt (tgt := 14) d84_7 rfl (fun c_7 => ?_) (fun c_7 => ?_)
    · have e : (decide (a ≤ v) && decide (v ≤ b)) = false := by
        rw [decide_eq_false (Int32.not_le.mpr c_7), Bool.and_false]
      rw [e] at h
      refine pm_iconst (v := nI 0) d84_14 (by decide) ?_
      exact pm_iret d84_15 rfl rfl h
    · refine pm_iconst (v := nI 1) d84_10 (by decide) ?_
      refine pm_goto (tgt := 15) d84_11 rfl ?_
      refine pm_iret d84_15 rfl (by first | rfl | exact nar_b _) ?_
      have e : (decide (a ≤ v) && decide (v ≤ b)) = true := by
        rw [decide_eq_true (Int32.not_lt.mp c_2), decide_eq_true (Int32.not_lt.mp c_7)]; rfl
      rw [e] at h
      exact h
theorem sp_87 {s : Stt} {A : Mem} {Q : Int32 → Mem → Prop} {v : Int32} (hI : CI s A) (h : Q (b2i (inN v (ns (sF s)))) A) : pm_P 87 0 [(0, .ref 0), (1, .int v)] [] A Q := by
  have hb := CI_bd hI
  refine pm_iload_n (i := 1) d87_0 rfl rfl ?_
  refine pm_iconst (v := nI 0) d87_1 (by decide) ?_
  refine pm_aload_n (i := 0) d87_2 rfl rfl ?_
  refine pm_getR d87_3 lf_10_19 rfl rfl ?_
  refine pm_getE d87_6 lf_10_127 rfl rfl (hI.2.1.2.1.1) ?_
  refine pm_iconst (v := nI 1) d87_9 (by decide) ?_
  refine pm_isub d87_10 ?_
  refine pm_callS (k2 := 84) (As := [_, _, _]) d87_11 lk_10_86 ok_84 rfl rfl rfl (Nat.le_of_ble_eq_true rfl) rfl rfl ⟨Nat.le_of_ble_eq_true rfl, Nat.le_of_ble_eq_true rfl⟩ (Nat.le_of_ble_eq_true rfl) ?_
  refine sp_84 ?_
  refine pm_iret d87_14 rfl (by first | rfl | exact nar_b _) ?_
  exact h
theorem sp_89 {s : Stt} {A : Mem} {Q : Int32 → Mem → Prop} {a : Nat} (hI : CI s A) (ha : a < nh (sF s)) (h : Q (b2i (kh s a)) A) : pm_P 89 0 [(0, .ref 0), (1, .int (nI a))] [] A Q := by
  have hb := CI_bd hI
  have e4 := (hI.2.1.1.2.2 a ha).2.2
  refine pm_aload_n (i := 0) d89_0 rfl rfl ?_
  refine pm_getR d89_1 lf_10_12 rfl rfl ?_
  refine pm_getR d89_4 lf_10_166 rfl rfl ?_
  refine pm_iload_n (i := 1) d89_7 rfl rfl ?_
  refine pm_ialdN d89_8 rfl (by decide) (by omega) ?_
  rw [e4]
  refine pm_aload_n (i := 0) d89_9 rfl rfl ?_
  refine pm_getR d89_10 lf_10_40 rfl rfl ?_
  refine pm_getE d89_13 lf_10_98 rfl rfl (hI.2.2.2.2.1) ?_
  first | refine pm_icmp_ltN (tgt := 23) d89_16 rfl (by omega) (by omega) (fun c_16 => ?_) (fun c_16 => ?_) | refine pm_icmp_lt (tgt := 23) d89_16 rfl (fun c_16 => ?_) (fun c_16 => ?_)
  · have e : kh s a = false := decide_eq_false (Int32.not_le.mpr c_16)
    rw [e] at h
    refine pm_iconst (v := nI 0) d89_23 (by decide) ?_
    exact pm_iret d89_24 rfl rfl h
  · refine pm_iconst (v := nI 1) d89_19 (by decide) ?_
    refine pm_goto (tgt := 24) d89_20 rfl ?_
    refine pm_iret d89_24 rfl (by first | rfl | exact nar_b _) ?_
    have e : kh s a = true := decide_eq_true (Int32.not_lt.mp c_16)
    rw [e] at h
    exact h
theorem sp_90 {s : Stt} {A : Mem} {Q : Int32 → Mem → Prop} {i : Nat} (hI : CI s A) (hi9 : i < ns (sF s)) (h : Q (b2i (ks s i)) A) : pm_P 90 0 [(0, .ref 0), (1, .int (nI i))] [] A Q := by
  have hb := CI_bd hI
  have e6 := CI_lo hI hi9
  have e7 := CI_hi hI hi9
  obtain ⟨b1, b2, -, -⟩ := bd_s hI.1.1 hI.1.2.1 hi9
  unfold ks at h
  refine pm_aload_n (i := 0) d90_0 rfl rfl ?_
  refine pm_aload_n (i := 0) d90_1 rfl rfl ?_
  refine pm_getR d90_2 lf_10_19 rfl rfl ?_
  refine pm_getR d90_5 lf_10_212 rfl rfl ?_
  refine pm_iload_n (i := 1) d90_8 rfl rfl ?_
  refine pm_ialdN d90_9 rfl (by decide) (by omega) ?_
  rw [e6]
  refine pm_callV (k2 := 89) (As := [_]) d90_10 lk_10_176 ok_89 rfl rfl rfl (Nat.le_of_ble_eq_true rfl) rfl rfl rfl rfl rfl ⟨Nat.le_of_ble_eq_true rfl, Nat.le_of_ble_eq_true rfl⟩ (Nat.le_of_ble_eq_true rfl) ?_
  refine sp_89 hI (by omega) ?_
  first | refine pm_if_eqB (tgt := 36) d90_13 rfl (fun c_13 => ?_) (fun c_13 => ?_) | refine pm_if_eqN (tgt := 36) d90_13 rfl (by omega) (fun c_13 => ?_) (fun c_13 => ?_) | refine pm_if_eq (tgt := 36) d90_13 rfl (fun c_13 => ?_) (fun c_13 => ?_)
  · refine pm_iconst (v := nI 0) d90_36 (by decide) ?_
    refine pm_iret d90_37 rfl (by first | rfl | exact nar_b _) ?_
    simp_all
    exact h
  · refine pm_aload_n (i := 0) d90_16 rfl rfl ?_
    refine pm_aload_n (i := 0) d90_17 rfl rfl ?_
    refine pm_getR d90_18 lf_10_19 rfl rfl ?_
    refine pm_getR d90_21 lf_10_215 rfl rfl ?_
    refine pm_iload_n (i := 1) d90_24 rfl rfl ?_
    refine pm_ialdN d90_25 rfl (by decide) (by omega) ?_
    rw [e7]
    refine pm_callV (k2 := 89) (As := [_]) d90_26 lk_10_176 ok_89 rfl rfl rfl (Nat.le_of_ble_eq_true rfl) rfl rfl rfl rfl rfl ⟨Nat.le_of_ble_eq_true rfl, Nat.le_of_ble_eq_true rfl⟩ (Nat.le_of_ble_eq_true rfl) ?_
    refine sp_89 hI (by omega) ?_
    first | refine pm_if_eqB (tgt := 36) d90_29 rfl (fun c_29 => ?_) (fun c_29 => ?_) | refine pm_if_eqN (tgt := 36) d90_29 rfl (by omega) (fun c_29 => ?_) (fun c_29 => ?_) | refine pm_if_eq (tgt := 36) d90_29 rfl (fun c_29 => ?_) (fun c_29 => ?_)
    · refine pm_iconst (v := nI 0) d90_36 (by decide) ?_
      refine pm_iret d90_37 rfl (by first | rfl | exact nar_b _) ?_
      simp_all
      exact h
    · refine pm_iconst (v := nI 1) d90_32 (by decide) ?_
      refine pm_goto (tgt := 37) d90_33 rfl ?_
      refine pm_iret d90_37 rfl (by first | rfl | exact nar_b _) ?_
      simp_all
      exact h
theorem sp_91 {s : Stt} {A : Mem} {Q : Int32 → Mem → Prop} {i : Nat} (hI : CI s A) (hi9 : i < nf (sF s)) (h : Q (b2i (kf s i)) A) : pm_P 91 0 [(0, .ref 0), (1, .int (nI i))] [] A Q := by
  have hb := CI_bd hI
  have e0 := CI_co hI (i := 3 * i) (by omega)
  have e1 := CI_co hI (i := 3 * i + 1) (by omega)
  have e2 := CI_co hI (i := 3 * i + 2) (by omega)
  have b0 := (bd_f hI.1.1 hI.1.2.1 (i := 3 * i) (by omega)).1
  have b1 := (bd_f hI.1.1 hI.1.2.1 (i := 3 * i + 1) (by omega)).1
  have b2 := (bd_f hI.1.1 hI.1.2.1 (i := 3 * i + 2) (by omega)).1
  unfold kf at h
  refine pm_aload_n (i := 0) d91_0 rfl rfl ?_
  refine pm_aload_n (i := 0) d91_1 rfl rfl ?_
  refine pm_getR d91_2 lf_10_33 rfl rfl ?_
  refine pm_getR d91_5 lf_10_247 rfl rfl ?_
  refine pm_iconst (v := nI 3) d91_8 (by decide) ?_
  refine pm_iload_n (i := 1) d91_9 rfl rfl ?_
  first | refine pm_imulN d91_10 ?_ | refine pm_imul d91_10 ?_
  refine pm_ialdN d91_11 rfl (by decide) (by omega) ?_
  rw [e0]
  refine pm_callV (k2 := 89) (As := [_]) d91_12 lk_10_176 ok_89 rfl rfl rfl (Nat.le_of_ble_eq_true rfl) rfl rfl rfl rfl rfl ⟨Nat.le_of_ble_eq_true rfl, Nat.le_of_ble_eq_true rfl⟩ (Nat.le_of_ble_eq_true rfl) ?_
  refine sp_89 hI (by omega) ?_
  first | refine pm_if_eqB (tgt := 62) d91_15 rfl (fun c_15 => ?_) (fun c_15 => ?_) | refine pm_if_eqN (tgt := 62) d91_15 rfl (by omega) (fun c_15 => ?_) (fun c_15 => ?_) | refine pm_if_eq (tgt := 62) d91_15 rfl (fun c_15 => ?_) (fun c_15 => ?_)
  · refine pm_iconst (v := nI 0) d91_62 (by decide) ?_
    refine pm_iret d91_63 rfl (by first | rfl | exact nar_b _) ?_
    simp_all
    exact h
  · refine pm_aload_n (i := 0) d91_18 rfl rfl ?_
    refine pm_aload_n (i := 0) d91_19 rfl rfl ?_
    refine pm_getR d91_20 lf_10_33 rfl rfl ?_
    refine pm_getR d91_23 lf_10_247 rfl rfl ?_
    refine pm_iconst (v := nI 3) d91_26 (by decide) ?_
    refine pm_iload_n (i := 1) d91_27 rfl rfl ?_
    first | refine pm_imulN d91_28 ?_ | refine pm_imul d91_28 ?_
    refine pm_iconst (v := nI 1) d91_29 (by decide) ?_
    first | refine pm_iaddN d91_30 ?_ | refine pm_iadd d91_30 ?_
    refine pm_ialdN d91_31 rfl (by decide) (by omega) ?_
    rw [e1]
    refine pm_callV (k2 := 89) (As := [_]) d91_32 lk_10_176 ok_89 rfl rfl rfl (Nat.le_of_ble_eq_true rfl) rfl rfl rfl rfl rfl ⟨Nat.le_of_ble_eq_true rfl, Nat.le_of_ble_eq_true rfl⟩ (Nat.le_of_ble_eq_true rfl) ?_
    refine sp_89 hI (by omega) ?_
    first | refine pm_if_eqB (tgt := 62) d91_35 rfl (fun c_35 => ?_) (fun c_35 => ?_) | refine pm_if_eqN (tgt := 62) d91_35 rfl (by omega) (fun c_35 => ?_) (fun c_35 => ?_) | refine pm_if_eq (tgt := 62) d91_35 rfl (fun c_35 => ?_) (fun c_35 => ?_)
    · refine pm_iconst (v := nI 0) d91_62 (by decide) ?_
      refine pm_iret d91_63 rfl (by first | rfl | exact nar_b _) ?_
      simp_all
      exact h
    · refine pm_aload_n (i := 0) d91_38 rfl rfl ?_
      refine pm_aload_n (i := 0) d91_39 rfl rfl ?_
      refine pm_getR d91_40 lf_10_33 rfl rfl ?_
      refine pm_getR d91_43 lf_10_247 rfl rfl ?_
      refine pm_iconst (v := nI 3) d91_46 (by decide) ?_
      refine pm_iload_n (i := 1) d91_47 rfl rfl ?_
      first | refine pm_imulN d91_48 ?_ | refine pm_imul d91_48 ?_
      refine pm_iconst (v := nI 2) d91_49 (by decide) ?_
      first | refine pm_iaddN d91_50 ?_ | refine pm_iadd d91_50 ?_
      refine pm_ialdN d91_51 rfl (by decide) (by omega) ?_
      rw [e2]
      refine pm_callV (k2 := 89) (As := [_]) d91_52 lk_10_176 ok_89 rfl rfl rfl (Nat.le_of_ble_eq_true rfl) rfl rfl rfl rfl rfl ⟨Nat.le_of_ble_eq_true rfl, Nat.le_of_ble_eq_true rfl⟩ (Nat.le_of_ble_eq_true rfl) ?_
      refine sp_89 hI (by omega) ?_
      first | refine pm_if_eqB (tgt := 62) d91_55 rfl (fun c_55 => ?_) (fun c_55 => ?_) | refine pm_if_eqN (tgt := 62) d91_55 rfl (by omega) (fun c_55 => ?_) (fun c_55 => ?_) | refine pm_if_eq (tgt := 62) d91_55 rfl (fun c_55 => ?_) (fun c_55 => ?_)
      · refine pm_iconst (v := nI 0) d91_62 (by decide) ?_
        refine pm_iret d91_63 rfl (by first | rfl | exact nar_b _) ?_
        simp_all
        exact h
      · refine pm_iconst (v := nI 1) d91_58 (by decide) ?_
        refine pm_goto (tgt := 63) d91_59 rfl ?_
        refine pm_iret d91_63 rfl (by first | rfl | exact nar_b _) ?_
        simp_all
        exact h
theorem sp_92 {s : Stt} {A : Mem} {Q : Int32 → Mem → Prop} {i : Nat} (hI : CI s A) (hi9 : i < nf (sF s)) (h : Q (b2i (cf s i)) A) : pm_P 92 0 [(0, .ref 0), (1, .int (nI i))] [] A Q := by
  have hb := CI_bd hI
  have e0 := CI_sd hI (i := 3 * i) (by omega)
  have e1 := CI_sd hI (i := 3 * i + 1) (by omega)
  have e2 := CI_sd hI (i := 3 * i + 2) (by omega)
  have b0 := (bd_f hI.1.1 hI.1.2.1 (i := 3 * i) (by omega)).2
  have b1 := (bd_f hI.1.1 hI.1.2.1 (i := 3 * i + 1) (by omega)).2
  have b2 := (bd_f hI.1.1 hI.1.2.1 (i := 3 * i + 2) (by omega)).2
  unfold cf at h
  refine pm_aload_n (i := 0) d92_0 rfl rfl ?_
  refine pm_iload_n (i := 1) d92_1 rfl rfl ?_
  refine pm_callV (k2 := 91) (As := [_]) d92_2 lk_10_250 ok_91 rfl rfl rfl (Nat.le_of_ble_eq_true rfl) rfl rfl rfl rfl rfl ⟨Nat.le_of_ble_eq_true rfl, Nat.le_of_ble_eq_true rfl⟩ (Nat.le_of_ble_eq_true rfl) ?_
  refine sp_91 hI hi9 ?_
  first | refine pm_if_eqB (tgt := 82) d92_5 rfl (fun c_5 => ?_) (fun c_5 => ?_) | refine pm_if_eqN (tgt := 82) d92_5 rfl (by omega) (fun c_5 => ?_) (fun c_5 => ?_) | refine pm_if_eq (tgt := 82) d92_5 rfl (fun c_5 => ?_) (fun c_5 => ?_)
  · refine pm_iconst (v := nI 0) d92_82 (by decide) ?_
    refine pm_iret d92_83 rfl (by first | rfl | exact nar_b _) ?_
    simp_all
    exact h
  · refine pm_aload_n (i := 0) d92_8 rfl rfl ?_
    refine pm_getR d92_9 lf_10_40 rfl rfl ?_
    refine pm_getR d92_12 lf_10_227 rfl rfl ?_
    refine pm_aload_n (i := 0) d92_15 rfl rfl ?_
    refine pm_getR d92_16 lf_10_33 rfl rfl ?_
    refine pm_getR d92_19 lf_10_320 rfl rfl ?_
    refine pm_iconst (v := nI 3) d92_22 (by decide) ?_
    refine pm_iload_n (i := 1) d92_23 rfl rfl ?_
    first | refine pm_imulN d92_24 ?_ | refine pm_imul d92_24 ?_
    refine pm_ialdN d92_25 rfl (by decide) (by omega) ?_
    rw [e0]
    refine pm_zaldN d92_26 rfl (by decide) (by omega) ?_
    rw [CI_ms hI (by omega)]
    first | refine pm_if_neB (tgt := 82) d92_27 rfl (fun c_27 => ?_) (fun c_27 => ?_) | refine pm_if_neN (tgt := 82) d92_27 rfl (by omega) (fun c_27 => ?_) (fun c_27 => ?_) | refine pm_if_ne (tgt := 82) d92_27 rfl (fun c_27 => ?_) (fun c_27 => ?_)
    · refine pm_iconst (v := nI 0) d92_82 (by decide) ?_
      refine pm_iret d92_83 rfl (by first | rfl | exact nar_b _) ?_
      simp_all
      exact h
    · refine pm_aload_n (i := 0) d92_30 rfl rfl ?_
      refine pm_getR d92_31 lf_10_40 rfl rfl ?_
      refine pm_getR d92_34 lf_10_227 rfl rfl ?_
      refine pm_aload_n (i := 0) d92_37 rfl rfl ?_
      refine pm_getR d92_38 lf_10_33 rfl rfl ?_
      refine pm_getR d92_41 lf_10_320 rfl rfl ?_
      refine pm_iconst (v := nI 3) d92_44 (by decide) ?_
      refine pm_iload_n (i := 1) d92_45 rfl rfl ?_
      first | refine pm_imulN d92_46 ?_ | refine pm_imul d92_46 ?_
      refine pm_iconst (v := nI 1) d92_47 (by decide) ?_
      first | refine pm_iaddN d92_48 ?_ | refine pm_iadd d92_48 ?_
      refine pm_ialdN d92_49 rfl (by decide) (by omega) ?_
      rw [e1]
      refine pm_zaldN d92_50 rfl (by decide) (by omega) ?_
      rw [CI_ms hI (by omega)]
      first | refine pm_if_neB (tgt := 82) d92_51 rfl (fun c_51 => ?_) (fun c_51 => ?_) | refine pm_if_neN (tgt := 82) d92_51 rfl (by omega) (fun c_51 => ?_) (fun c_51 => ?_) | refine pm_if_ne (tgt := 82) d92_51 rfl (fun c_51 => ?_) (fun c_51 => ?_)
      · refine pm_iconst (v := nI 0) d92_82 (by decide) ?_
        refine pm_iret d92_83 rfl (by first | rfl | exact nar_b _) ?_
        simp_all
        exact h
      · refine pm_aload_n (i := 0) d92_54 rfl rfl ?_
        refine pm_getR d92_55 lf_10_40 rfl rfl ?_
        refine pm_getR d92_58 lf_10_227 rfl rfl ?_
        refine pm_aload_n (i := 0) d92_61 rfl rfl ?_
        refine pm_getR d92_62 lf_10_33 rfl rfl ?_
        refine pm_getR d92_65 lf_10_320 rfl rfl ?_
        refine pm_iconst (v := nI 3) d92_68 (by decide) ?_
        refine pm_iload_n (i := 1) d92_69 rfl rfl ?_
        first | refine pm_imulN d92_70 ?_ | refine pm_imul d92_70 ?_
        refine pm_iconst (v := nI 2) d92_71 (by decide) ?_
        first | refine pm_iaddN d92_72 ?_ | refine pm_iadd d92_72 ?_
        refine pm_ialdN d92_73 rfl (by decide) (by omega) ?_
        rw [e2]
        refine pm_zaldN d92_74 rfl (by decide) (by omega) ?_
        rw [CI_ms hI (by omega)]
        first | refine pm_if_neB (tgt := 82) d92_75 rfl (fun c_75 => ?_) (fun c_75 => ?_) | refine pm_if_neN (tgt := 82) d92_75 rfl (by omega) (fun c_75 => ?_) (fun c_75 => ?_) | refine pm_if_ne (tgt := 82) d92_75 rfl (fun c_75 => ?_) (fun c_75 => ?_)
        · refine pm_iconst (v := nI 0) d92_82 (by decide) ?_
          refine pm_iret d92_83 rfl (by first | rfl | exact nar_b _) ?_
          simp_all
          exact h
        · refine pm_iconst (v := nI 1) d92_78 (by decide) ?_
          refine pm_goto (tgt := 83) d92_79 rfl ?_
          refine pm_iret d92_83 rfl (by first | rfl | exact nar_b _) ?_
          simp_all
          exact h
theorem sp_93 {s : Stt} {A : Mem} {Q : Int32 → Mem → Prop} {a : Nat} (hI : CI s A) (ha : a < nh (sF s)) (h : Q (b2i (bh s a)) A) : pm_P 93 0 [(0, .ref 0), (1, .int (nI a))] [] A Q := by
  have hb := CI_bd hI
  have hd := bd_a hI.1.1 hI.1.2.1 ha
  have hdg := CI_dg hI ha
  have lp : kh s a = true → ∀ i, i ≤ dg (sF s) a → anyN (fun j => !kh s (lh (sF s) (a * 6 + j))) i = false → pm_P 93 12 [(0, .ref 0), (1, .int (nI a)), (2, .int (nI i))] [] A Q := by
    intro hk
    refine up_ind (fun i hi9 ih hz => ?_)
    refine pm_iload_n (i := 2) d93_12 rfl rfl ?_
    refine pm_aload_n (i := 0) d93_13 rfl rfl ?_
    refine pm_getR d93_14 lf_10_19 rfl rfl ?_
    refine pm_getR d93_17 lf_10_169 rfl rfl ?_
    refine pm_iload_n (i := 1) d93_20 rfl rfl ?_
    refine pm_ialdN d93_21 rfl (by decide) (by omega) ?_
    rw [hdg]
    first | refine pm_icmp_geN (tgt := 54) d93_22 rfl (by omega) (by omega) (fun c_22 => ?_) (fun c_22 => ?_) | refine pm_icmp_ge (tgt := 54) d93_22 rfl (fun c_22 => ?_) (fun c_22 => ?_)
    · refine pm_iconst (v := nI 0) d93_54 (by decide) ?_
      refine pm_iret d93_55 rfl (by first | rfl | exact nar_b _) ?_
      have e : bh s a = false := by
        have e2 : i = dg (sF s) a := by omega
        rw [e2] at hz
        simp [bh, hz]
      rw [e] at h
      exact h
    · refine pm_aload_n (i := 0) d93_25 rfl rfl ?_
      refine pm_aload_n (i := 0) d93_26 rfl rfl ?_
      refine pm_getR d93_27 lf_10_19 rfl rfl ?_
      refine pm_getR d93_30 lf_10_196 rfl rfl ?_
      refine pm_iload_n (i := 1) d93_33 rfl rfl ?_
      refine pm_bipush (v := nI 6) d93_34 (by decide) ?_
      first | refine pm_imulN d93_36 ?_ | refine pm_imul d93_36 ?_
      refine pm_iload_n (i := 2) d93_37 rfl rfl ?_
      first | refine pm_iaddN d93_38 ?_ | refine pm_iadd d93_38 ?_
      refine pm_ialdN d93_39 rfl (by decide) (by omega) ?_
      rw [CI_lh hI ha c_22]
      refine pm_callV (k2 := 89) (As := [_]) d93_40 lk_10_176 ok_89 rfl rfl rfl (Nat.le_of_ble_eq_true rfl) rfl rfl rfl rfl rfl ⟨Nat.le_of_ble_eq_true rfl, Nat.le_of_ble_eq_true rfl⟩ (Nat.le_of_ble_eq_true rfl) ?_
      refine sp_89 hI (hd.2 i c_22).1 ?_
      first | refine pm_if_neB (tgt := 48) d93_43 rfl (fun c_43 => ?_) (fun c_43 => ?_) | refine pm_if_neN (tgt := 48) d93_43 rfl (by omega) (fun c_43 => ?_) (fun c_43 => ?_) | refine pm_if_ne (tgt := 48) d93_43 rfl (fun c_43 => ?_) (fun c_43 => ?_)
      · first | refine pm_iincN 1 (L2 := [(0, _), (1, _), (2, _)]) d93_48 rfl (by decide) rfl ?_ | refine pm_iinc (L2 := [(0, _), (1, _), (2, _)]) d93_48 rfl rfl (by decide) rfl ?_
        refine pm_goto (tgt := 12) d93_51 rfl ?_
        exact ih c_22 (anyN_f hz (by simp [c_43]))
      · refine pm_iconst (v := nI 1) d93_46 (by decide) ?_
        refine pm_iret d93_47 rfl (by first | rfl | exact nar_b _) ?_
        have e : bh s a = true := by
          simp only [bh, hk, Bool.true_and]
          exact anyN_t c_22 (by simp [c_43])
        rw [e] at h
        exact h
  refine pm_aload_n (i := 0) d93_0 rfl rfl ?_
  refine pm_iload_n (i := 1) d93_1 rfl rfl ?_
  refine pm_callV (k2 := 89) (As := [_]) d93_2 lk_10_176 ok_89 rfl rfl rfl (Nat.le_of_ble_eq_true rfl) rfl rfl rfl rfl rfl ⟨Nat.le_of_ble_eq_true rfl, Nat.le_of_ble_eq_true rfl⟩ (Nat.le_of_ble_eq_true rfl) ?_
  refine sp_89 hI ha ?_
  first | refine pm_if_neB (tgt := 10) d93_5 rfl (fun c_5 => ?_) (fun c_5 => ?_) | refine pm_if_neN (tgt := 10) d93_5 rfl (by omega) (fun c_5 => ?_) (fun c_5 => ?_) | refine pm_if_ne (tgt := 10) d93_5 rfl (fun c_5 => ?_) (fun c_5 => ?_)
  · refine pm_iconst (v := nI 0) d93_10 (by decide) ?_
    refine pm_istore_n (i := 2) (L2 := [(0, _), (1, _), (2, _)]) d93_11 rfl (by decide) rfl ?_
    exact lp c_5 0 (Nat.zero_le _) rfl
  · refine pm_iconst (v := nI 0) d93_8 (by decide) ?_
    refine pm_iret d93_9 rfl (by first | rfl | exact nar_b _) ?_
    have e : bh s a = false := by simp [bh, c_5]
    rw [e] at h
    exact h
theorem sp_95 {s : Stt} {A : Mem} {Q : Int32 → Mem → Prop} (hI : CI s A) (h : Q (nI (cnt (kh s) (nh (sF s)))) A) : pm_P 95 0 [(0, .ref 0)] [] A Q := by
  have hb := CI_bd hI
  generalize hp : (kh s) = p at h
  have hp : ∀ j, p j = (kh s) j := fun j => by rw [← hp]
  have lp : ∀ i, i ≤ nh (sF s) → pm_P 95 4 [(0, .ref 0), (1, .int (nI (cnt p i))), (2, .int (nI i))] [] A Q := by
    refine up_ind (fun i hi9 ih => ?_)
    refine pm_iload_n (i := 2) d95_4 rfl rfl ?_
    refine pm_aload_n (i := 0) d95_5 rfl rfl ?_
    refine pm_getR d95_6 lf_10_12 rfl rfl ?_
    refine pm_getE d95_9 lf_10_104 rfl rfl (CI_nh hI) ?_
    first | refine pm_icmp_geN (tgt := 32) d95_12 rfl (by omega) (by omega) (fun c_12 => ?_) (fun c_12 => ?_) | refine pm_icmp_ge (tgt := 32) d95_12 rfl (fun c_12 => ?_) (fun c_12 => ?_)
    · refine pm_iload_n (i := 1) d95_32 rfl rfl ?_
      refine pm_iret d95_33 rfl (by first | rfl | exact nar_b _) ?_
      rw [show i = nh (sF s) by omega]
      exact h
    · refine pm_aload_n (i := 0) d95_15 rfl rfl ?_
      refine pm_iload_n (i := 2) d95_16 rfl rfl ?_
      refine pm_callV (k2 := 89) (As := [_]) d95_17 lk_10_176 ok_89 rfl rfl rfl (Nat.le_of_ble_eq_true rfl) rfl rfl rfl rfl rfl ⟨Nat.le_of_ble_eq_true rfl, Nat.le_of_ble_eq_true rfl⟩ (Nat.le_of_ble_eq_true rfl) ?_
      refine sp_89 hI c_12 ?_
      first | refine pm_if_eqB (tgt := 26) d95_20 rfl (fun c_20 => ?_) (fun c_20 => ?_) | refine pm_if_eqN (tgt := 26) d95_20 rfl (by omega) (fun c_20 => ?_) (fun c_20 => ?_) | refine pm_if_eq (tgt := 26) d95_20 rfl (fun c_20 => ?_) (fun c_20 => ?_)
      · first | refine pm_iincN 1 (L2 := [(0, _), (1, _), (2, _)]) d95_26 rfl (by decide) rfl ?_ | refine pm_iinc (L2 := [(0, _), (1, _), (2, _)]) d95_26 rfl rfl (by decide) rfl ?_
        refine pm_goto (tgt := 4) d95_29 rfl ?_
        first | (rw [← cnt_t (p := p) (i := i) (by simp_all)]; exact ih c_12) | (rw [← cnt_f (p := p) (i := i) (by simp_all)]; exact ih c_12)
      · first | refine pm_iincN 1 (L2 := [(0, _), (1, _), (2, _)]) d95_23 rfl (by decide) rfl ?_ | refine pm_iinc (L2 := [(0, _), (1, _), (2, _)]) d95_23 rfl rfl (by decide) rfl ?_
        first | refine pm_iincN 1 (L2 := [(0, _), (1, _), (2, _)]) d95_26 rfl (by decide) rfl ?_ | refine pm_iinc (L2 := [(0, _), (1, _), (2, _)]) d95_26 rfl rfl (by decide) rfl ?_
        refine pm_goto (tgt := 4) d95_29 rfl ?_
        first | (rw [← cnt_t (p := p) (i := i) (by simp_all)]; exact ih c_12) | (rw [← cnt_f (p := p) (i := i) (by simp_all)]; exact ih c_12)
  refine pm_iconst (v := nI 0) d95_0 (by decide) ?_
  refine pm_istore_n (i := 1) (L2 := [(0, _), (1, _)]) d95_1 rfl (by decide) rfl ?_
  refine pm_iconst (v := nI 0) d95_2 (by decide) ?_
  refine pm_istore_n (i := 2) (L2 := [(0, _), (1, _), (2, _)]) d95_3 rfl (by decide) rfl ?_
  exact lp 0 (Nat.zero_le _)
theorem sp_96 {s : Stt} {A : Mem} {Q : Int32 → Mem → Prop} (hI : CI s A) (h : Q (nI (cnt (bh s) (nh (sF s)))) A) : pm_P 96 0 [(0, .ref 0)] [] A Q := by
  have hb := CI_bd hI
  generalize hp : (bh s) = p at h
  have hp : ∀ j, p j = (bh s) j := fun j => by rw [← hp]
  have lp : ∀ i, i ≤ nh (sF s) → pm_P 96 4 [(0, .ref 0), (1, .int (nI (cnt p i))), (2, .int (nI i))] [] A Q := by
    refine up_ind (fun i hi9 ih => ?_)
    refine pm_iload_n (i := 2) d96_4 rfl rfl ?_
    refine pm_aload_n (i := 0) d96_5 rfl rfl ?_
    refine pm_getR d96_6 lf_10_12 rfl rfl ?_
    refine pm_getE d96_9 lf_10_104 rfl rfl (CI_nh hI) ?_
    first | refine pm_icmp_geN (tgt := 32) d96_12 rfl (by omega) (by omega) (fun c_12 => ?_) (fun c_12 => ?_) | refine pm_icmp_ge (tgt := 32) d96_12 rfl (fun c_12 => ?_) (fun c_12 => ?_)
    · refine pm_iload_n (i := 1) d96_32 rfl rfl ?_
      refine pm_iret d96_33 rfl (by first | rfl | exact nar_b _) ?_
      rw [show i = nh (sF s) by omega]
      exact h
    · refine pm_aload_n (i := 0) d96_15 rfl rfl ?_
      refine pm_iload_n (i := 2) d96_16 rfl rfl ?_
      refine pm_callV (k2 := 93) (As := [_]) d96_17 lk_10_179 ok_93 rfl rfl rfl (Nat.le_of_ble_eq_true rfl) rfl rfl rfl rfl rfl ⟨Nat.le_of_ble_eq_true rfl, Nat.le_of_ble_eq_true rfl⟩ (Nat.le_of_ble_eq_true rfl) ?_
      refine sp_93 hI c_12 ?_
      first | refine pm_if_eqB (tgt := 26) d96_20 rfl (fun c_20 => ?_) (fun c_20 => ?_) | refine pm_if_eqN (tgt := 26) d96_20 rfl (by omega) (fun c_20 => ?_) (fun c_20 => ?_) | refine pm_if_eq (tgt := 26) d96_20 rfl (fun c_20 => ?_) (fun c_20 => ?_)
      · first | refine pm_iincN 1 (L2 := [(0, _), (1, _), (2, _)]) d96_26 rfl (by decide) rfl ?_ | refine pm_iinc (L2 := [(0, _), (1, _), (2, _)]) d96_26 rfl rfl (by decide) rfl ?_
        refine pm_goto (tgt := 4) d96_29 rfl ?_
        first | (rw [← cnt_t (p := p) (i := i) (by simp_all)]; exact ih c_12) | (rw [← cnt_f (p := p) (i := i) (by simp_all)]; exact ih c_12)
      · first | refine pm_iincN 1 (L2 := [(0, _), (1, _), (2, _)]) d96_23 rfl (by decide) rfl ?_ | refine pm_iinc (L2 := [(0, _), (1, _), (2, _)]) d96_23 rfl rfl (by decide) rfl ?_
        first | refine pm_iincN 1 (L2 := [(0, _), (1, _), (2, _)]) d96_26 rfl (by decide) rfl ?_ | refine pm_iinc (L2 := [(0, _), (1, _), (2, _)]) d96_26 rfl rfl (by decide) rfl ?_
        refine pm_goto (tgt := 4) d96_29 rfl ?_
        first | (rw [← cnt_t (p := p) (i := i) (by simp_all)]; exact ih c_12) | (rw [← cnt_f (p := p) (i := i) (by simp_all)]; exact ih c_12)
  refine pm_iconst (v := nI 0) d96_0 (by decide) ?_
  refine pm_istore_n (i := 1) (L2 := [(0, _), (1, _)]) d96_1 rfl (by decide) rfl ?_
  refine pm_iconst (v := nI 0) d96_2 (by decide) ?_
  refine pm_istore_n (i := 2) (L2 := [(0, _), (1, _), (2, _)]) d96_3 rfl (by decide) rfl ?_
  exact lp 0 (Nat.zero_le _)
theorem sp_97 {s : Stt} {A : Mem} {Q : Int32 → Mem → Prop} (hI : CI s A) (h : Q (nI (cnt (ks s) (ns (sF s)))) A) : pm_P 97 0 [(0, .ref 0)] [] A Q := by
  have hb := CI_bd hI
  generalize hp : (ks s) = p at h
  have hp : ∀ j, p j = (ks s) j := fun j => by rw [← hp]
  have lp : ∀ i, i ≤ ns (sF s) → pm_P 97 4 [(0, .ref 0), (1, .int (nI (cnt p i))), (2, .int (nI i))] [] A Q := by
    refine up_ind (fun i hi9 ih => ?_)
    refine pm_iload_n (i := 2) d97_4 rfl rfl ?_
    refine pm_aload_n (i := 0) d97_5 rfl rfl ?_
    refine pm_getR d97_6 lf_10_19 rfl rfl ?_
    refine pm_getE d97_9 lf_10_127 rfl rfl (CI_ns hI) ?_
    first | refine pm_icmp_geN (tgt := 32) d97_12 rfl (by omega) (by omega) (fun c_12 => ?_) (fun c_12 => ?_) | refine pm_icmp_ge (tgt := 32) d97_12 rfl (fun c_12 => ?_) (fun c_12 => ?_)
    · refine pm_iload_n (i := 1) d97_32 rfl rfl ?_
      refine pm_iret d97_33 rfl (by first | rfl | exact nar_b _) ?_
      rw [show i = ns (sF s) by omega]
      exact h
    · refine pm_aload_n (i := 0) d97_15 rfl rfl ?_
      refine pm_iload_n (i := 2) d97_16 rfl rfl ?_
      refine pm_callV (k2 := 90) (As := [_]) d97_17 lk_10_224 ok_90 rfl rfl rfl (Nat.le_of_ble_eq_true rfl) rfl rfl rfl rfl rfl ⟨Nat.le_of_ble_eq_true rfl, Nat.le_of_ble_eq_true rfl⟩ (Nat.le_of_ble_eq_true rfl) ?_
      refine sp_90 hI c_12 ?_
      first | refine pm_if_eqB (tgt := 26) d97_20 rfl (fun c_20 => ?_) (fun c_20 => ?_) | refine pm_if_eqN (tgt := 26) d97_20 rfl (by omega) (fun c_20 => ?_) (fun c_20 => ?_) | refine pm_if_eq (tgt := 26) d97_20 rfl (fun c_20 => ?_) (fun c_20 => ?_)
      · first | refine pm_iincN 1 (L2 := [(0, _), (1, _), (2, _)]) d97_26 rfl (by decide) rfl ?_ | refine pm_iinc (L2 := [(0, _), (1, _), (2, _)]) d97_26 rfl rfl (by decide) rfl ?_
        refine pm_goto (tgt := 4) d97_29 rfl ?_
        first | (rw [← cnt_t (p := p) (i := i) (by simp_all)]; exact ih c_12) | (rw [← cnt_f (p := p) (i := i) (by simp_all)]; exact ih c_12)
      · first | refine pm_iincN 1 (L2 := [(0, _), (1, _), (2, _)]) d97_23 rfl (by decide) rfl ?_ | refine pm_iinc (L2 := [(0, _), (1, _), (2, _)]) d97_23 rfl rfl (by decide) rfl ?_
        first | refine pm_iincN 1 (L2 := [(0, _), (1, _), (2, _)]) d97_26 rfl (by decide) rfl ?_ | refine pm_iinc (L2 := [(0, _), (1, _), (2, _)]) d97_26 rfl rfl (by decide) rfl ?_
        refine pm_goto (tgt := 4) d97_29 rfl ?_
        first | (rw [← cnt_t (p := p) (i := i) (by simp_all)]; exact ih c_12) | (rw [← cnt_f (p := p) (i := i) (by simp_all)]; exact ih c_12)
  refine pm_iconst (v := nI 0) d97_0 (by decide) ?_
  refine pm_istore_n (i := 1) (L2 := [(0, _), (1, _)]) d97_1 rfl (by decide) rfl ?_
  refine pm_iconst (v := nI 0) d97_2 (by decide) ?_
  refine pm_istore_n (i := 2) (L2 := [(0, _), (1, _), (2, _)]) d97_3 rfl (by decide) rfl ?_
  exact lp 0 (Nat.zero_le _)
theorem sp_98 {s : Stt} {A : Mem} {Q : Int32 → Mem → Prop} (hI : CI s A) (h : Q (nI (cnt (fun i => ks s i && sM s i) (ns (sF s)))) A) : pm_P 98 0 [(0, .ref 0)] [] A Q := by
  have hb := CI_bd hI
  generalize hp : (fun i => ks s i && sM s i) = p at h
  have hp : ∀ j, p j = (fun i => ks s i && sM s i) j := fun j => by rw [← hp]
  have lp : ∀ i, i ≤ ns (sF s) → pm_P 98 4 [(0, .ref 0), (1, .int (nI (cnt p i))), (2, .int (nI i))] [] A Q := by
    refine up_ind (fun i hi9 ih => ?_)
    refine pm_iload_n (i := 2) d98_4 rfl rfl ?_
    refine pm_aload_n (i := 0) d98_5 rfl rfl ?_
    refine pm_getR d98_6 lf_10_19 rfl rfl ?_
    refine pm_getE d98_9 lf_10_127 rfl rfl (CI_ns hI) ?_
    first | refine pm_icmp_geN (tgt := 44) d98_12 rfl (by omega) (by omega) (fun c_12 => ?_) (fun c_12 => ?_) | refine pm_icmp_ge (tgt := 44) d98_12 rfl (fun c_12 => ?_) (fun c_12 => ?_)
    · refine pm_iload_n (i := 1) d98_44 rfl rfl ?_
      refine pm_iret d98_45 rfl (by first | rfl | exact nar_b _) ?_
      rw [show i = ns (sF s) by omega]
      exact h
    · refine pm_aload_n (i := 0) d98_15 rfl rfl ?_
      refine pm_iload_n (i := 2) d98_16 rfl rfl ?_
      refine pm_callV (k2 := 90) (As := [_]) d98_17 lk_10_224 ok_90 rfl rfl rfl (Nat.le_of_ble_eq_true rfl) rfl rfl rfl rfl rfl ⟨Nat.le_of_ble_eq_true rfl, Nat.le_of_ble_eq_true rfl⟩ (Nat.le_of_ble_eq_true rfl) ?_
      refine sp_90 hI c_12 ?_
      first | refine pm_if_eqB (tgt := 38) d98_20 rfl (fun c_20 => ?_) (fun c_20 => ?_) | refine pm_if_eqN (tgt := 38) d98_20 rfl (by omega) (fun c_20 => ?_) (fun c_20 => ?_) | refine pm_if_eq (tgt := 38) d98_20 rfl (fun c_20 => ?_) (fun c_20 => ?_)
      · first | refine pm_iincN 1 (L2 := [(0, _), (1, _), (2, _)]) d98_38 rfl (by decide) rfl ?_ | refine pm_iinc (L2 := [(0, _), (1, _), (2, _)]) d98_38 rfl rfl (by decide) rfl ?_
        refine pm_goto (tgt := 4) d98_41 rfl ?_
        first | (rw [← cnt_t (p := p) (i := i) (by simp_all)]; exact ih c_12) | (rw [← cnt_f (p := p) (i := i) (by simp_all)]; exact ih c_12)
      · refine pm_aload_n (i := 0) d98_23 rfl rfl ?_
        refine pm_getR d98_24 lf_10_40 rfl rfl ?_
        refine pm_getR d98_27 lf_10_227 rfl rfl ?_
        refine pm_iload_n (i := 2) d98_30 rfl rfl ?_
        refine pm_zaldN d98_31 rfl (by decide) (by omega) ?_
        rw [CI_ms hI (by omega)]
        first | refine pm_if_eqB (tgt := 38) d98_32 rfl (fun c_32 => ?_) (fun c_32 => ?_) | refine pm_if_eqN (tgt := 38) d98_32 rfl (by omega) (fun c_32 => ?_) (fun c_32 => ?_) | refine pm_if_eq (tgt := 38) d98_32 rfl (fun c_32 => ?_) (fun c_32 => ?_)
        · first | refine pm_iincN 1 (L2 := [(0, _), (1, _), (2, _)]) d98_38 rfl (by decide) rfl ?_ | refine pm_iinc (L2 := [(0, _), (1, _), (2, _)]) d98_38 rfl rfl (by decide) rfl ?_
          refine pm_goto (tgt := 4) d98_41 rfl ?_
          first | (rw [← cnt_t (p := p) (i := i) (by simp_all)]; exact ih c_12) | (rw [← cnt_f (p := p) (i := i) (by simp_all)]; exact ih c_12)
        · first | refine pm_iincN 1 (L2 := [(0, _), (1, _), (2, _)]) d98_35 rfl (by decide) rfl ?_ | refine pm_iinc (L2 := [(0, _), (1, _), (2, _)]) d98_35 rfl rfl (by decide) rfl ?_
          first | refine pm_iincN 1 (L2 := [(0, _), (1, _), (2, _)]) d98_38 rfl (by decide) rfl ?_ | refine pm_iinc (L2 := [(0, _), (1, _), (2, _)]) d98_38 rfl rfl (by decide) rfl ?_
          refine pm_goto (tgt := 4) d98_41 rfl ?_
          first | (rw [← cnt_t (p := p) (i := i) (by simp_all)]; exact ih c_12) | (rw [← cnt_f (p := p) (i := i) (by simp_all)]; exact ih c_12)
  refine pm_iconst (v := nI 0) d98_0 (by decide) ?_
  refine pm_istore_n (i := 1) (L2 := [(0, _), (1, _)]) d98_1 rfl (by decide) rfl ?_
  refine pm_iconst (v := nI 0) d98_2 (by decide) ?_
  refine pm_istore_n (i := 2) (L2 := [(0, _), (1, _), (2, _)]) d98_3 rfl (by decide) rfl ?_
  exact lp 0 (Nat.zero_le _)
theorem sp_99 {s : Stt} {A : Mem} {Q : Int32 → Mem → Prop} (hI : CI s A) (h : Q (nI (cnt (kf s) (nf (sF s)))) A) : pm_P 99 0 [(0, .ref 0)] [] A Q := by
  have hb := CI_bd hI
  generalize hp : (kf s) = p at h
  have hp : ∀ j, p j = (kf s) j := fun j => by rw [← hp]
  have lp : ∀ i, i ≤ nf (sF s) → pm_P 99 4 [(0, .ref 0), (1, .int (nI (cnt p i))), (2, .int (nI i))] [] A Q := by
    refine up_ind (fun i hi9 ih => ?_)
    refine pm_iload_n (i := 2) d99_4 rfl rfl ?_
    refine pm_aload_n (i := 0) d99_5 rfl rfl ?_
    refine pm_getR d99_6 lf_10_33 rfl rfl ?_
    refine pm_getE d99_9 lf_10_128 rfl rfl (CI_nf hI) ?_
    first | refine pm_icmp_geN (tgt := 32) d99_12 rfl (by omega) (by omega) (fun c_12 => ?_) (fun c_12 => ?_) | refine pm_icmp_ge (tgt := 32) d99_12 rfl (fun c_12 => ?_) (fun c_12 => ?_)
    · refine pm_iload_n (i := 1) d99_32 rfl rfl ?_
      refine pm_iret d99_33 rfl (by first | rfl | exact nar_b _) ?_
      rw [show i = nf (sF s) by omega]
      exact h
    · refine pm_aload_n (i := 0) d99_15 rfl rfl ?_
      refine pm_iload_n (i := 2) d99_16 rfl rfl ?_
      refine pm_callV (k2 := 91) (As := [_]) d99_17 lk_10_250 ok_91 rfl rfl rfl (Nat.le_of_ble_eq_true rfl) rfl rfl rfl rfl rfl ⟨Nat.le_of_ble_eq_true rfl, Nat.le_of_ble_eq_true rfl⟩ (Nat.le_of_ble_eq_true rfl) ?_
      refine sp_91 hI c_12 ?_
      first | refine pm_if_eqB (tgt := 26) d99_20 rfl (fun c_20 => ?_) (fun c_20 => ?_) | refine pm_if_eqN (tgt := 26) d99_20 rfl (by omega) (fun c_20 => ?_) (fun c_20 => ?_) | refine pm_if_eq (tgt := 26) d99_20 rfl (fun c_20 => ?_) (fun c_20 => ?_)
      · first | refine pm_iincN 1 (L2 := [(0, _), (1, _), (2, _)]) d99_26 rfl (by decide) rfl ?_ | refine pm_iinc (L2 := [(0, _), (1, _), (2, _)]) d99_26 rfl rfl (by decide) rfl ?_
        refine pm_goto (tgt := 4) d99_29 rfl ?_
        first | (rw [← cnt_t (p := p) (i := i) (by simp_all)]; exact ih c_12) | (rw [← cnt_f (p := p) (i := i) (by simp_all)]; exact ih c_12)
      · first | refine pm_iincN 1 (L2 := [(0, _), (1, _), (2, _)]) d99_23 rfl (by decide) rfl ?_ | refine pm_iinc (L2 := [(0, _), (1, _), (2, _)]) d99_23 rfl rfl (by decide) rfl ?_
        first | refine pm_iincN 1 (L2 := [(0, _), (1, _), (2, _)]) d99_26 rfl (by decide) rfl ?_ | refine pm_iinc (L2 := [(0, _), (1, _), (2, _)]) d99_26 rfl rfl (by decide) rfl ?_
        refine pm_goto (tgt := 4) d99_29 rfl ?_
        first | (rw [← cnt_t (p := p) (i := i) (by simp_all)]; exact ih c_12) | (rw [← cnt_f (p := p) (i := i) (by simp_all)]; exact ih c_12)
  refine pm_iconst (v := nI 0) d99_0 (by decide) ?_
  refine pm_istore_n (i := 1) (L2 := [(0, _), (1, _)]) d99_1 rfl (by decide) rfl ?_
  refine pm_iconst (v := nI 0) d99_2 (by decide) ?_
  refine pm_istore_n (i := 2) (L2 := [(0, _), (1, _), (2, _)]) d99_3 rfl (by decide) rfl ?_
  exact lp 0 (Nat.zero_le _)
theorem sp_100 {s : Stt} {A : Mem} {Q : Int32 → Mem → Prop} (hI : CI s A) (h : Q (nI (cnt (fun i => kf s i && !cf s i) (nf (sF s)))) A) : pm_P 100 0 [(0, .ref 0)] [] A Q := by
  have hb := CI_bd hI
  generalize hp : (fun i => kf s i && !cf s i) = p at h
  have hp : ∀ j, p j = (fun i => kf s i && !cf s i) j := fun j => by rw [← hp]
  have lp : ∀ i, i ≤ nf (sF s) → pm_P 100 4 [(0, .ref 0), (1, .int (nI (cnt p i))), (2, .int (nI i))] [] A Q := by
    refine up_ind (fun i hi9 ih => ?_)
    refine pm_iload_n (i := 2) d100_4 rfl rfl ?_
    refine pm_aload_n (i := 0) d100_5 rfl rfl ?_
    refine pm_getR d100_6 lf_10_33 rfl rfl ?_
    refine pm_getE d100_9 lf_10_128 rfl rfl (CI_nf hI) ?_
    first | refine pm_icmp_geN (tgt := 40) d100_12 rfl (by omega) (by omega) (fun c_12 => ?_) (fun c_12 => ?_) | refine pm_icmp_ge (tgt := 40) d100_12 rfl (fun c_12 => ?_) (fun c_12 => ?_)
    · refine pm_iload_n (i := 1) d100_40 rfl rfl ?_
      refine pm_iret d100_41 rfl (by first | rfl | exact nar_b _) ?_
      rw [show i = nf (sF s) by omega]
      exact h
    · refine pm_aload_n (i := 0) d100_15 rfl rfl ?_
      refine pm_iload_n (i := 2) d100_16 rfl rfl ?_
      refine pm_callV (k2 := 91) (As := [_]) d100_17 lk_10_250 ok_91 rfl rfl rfl (Nat.le_of_ble_eq_true rfl) rfl rfl rfl rfl rfl ⟨Nat.le_of_ble_eq_true rfl, Nat.le_of_ble_eq_true rfl⟩ (Nat.le_of_ble_eq_true rfl) ?_
      refine sp_91 hI c_12 ?_
      first | refine pm_if_eqB (tgt := 34) d100_20 rfl (fun c_20 => ?_) (fun c_20 => ?_) | refine pm_if_eqN (tgt := 34) d100_20 rfl (by omega) (fun c_20 => ?_) (fun c_20 => ?_) | refine pm_if_eq (tgt := 34) d100_20 rfl (fun c_20 => ?_) (fun c_20 => ?_)
      · first | refine pm_iincN 1 (L2 := [(0, _), (1, _), (2, _)]) d100_34 rfl (by decide) rfl ?_ | refine pm_iinc (L2 := [(0, _), (1, _), (2, _)]) d100_34 rfl rfl (by decide) rfl ?_
        refine pm_goto (tgt := 4) d100_37 rfl ?_
        first | (rw [← cnt_t (p := p) (i := i) (by simp_all)]; exact ih c_12) | (rw [← cnt_f (p := p) (i := i) (by simp_all)]; exact ih c_12)
      · refine pm_aload_n (i := 0) d100_23 rfl rfl ?_
        refine pm_iload_n (i := 2) d100_24 rfl rfl ?_
        refine pm_callV (k2 := 92) (As := [_]) d100_25 lk_10_253 ok_92 rfl rfl rfl (Nat.le_of_ble_eq_true rfl) rfl rfl rfl rfl rfl ⟨Nat.le_of_ble_eq_true rfl, Nat.le_of_ble_eq_true rfl⟩ (Nat.le_of_ble_eq_true rfl) ?_
        refine sp_92 hI c_12 ?_
        first | refine pm_if_neB (tgt := 34) d100_28 rfl (fun c_28 => ?_) (fun c_28 => ?_) | refine pm_if_neN (tgt := 34) d100_28 rfl (by omega) (fun c_28 => ?_) (fun c_28 => ?_) | refine pm_if_ne (tgt := 34) d100_28 rfl (fun c_28 => ?_) (fun c_28 => ?_)
        · first | refine pm_iincN 1 (L2 := [(0, _), (1, _), (2, _)]) d100_34 rfl (by decide) rfl ?_ | refine pm_iinc (L2 := [(0, _), (1, _), (2, _)]) d100_34 rfl rfl (by decide) rfl ?_
          refine pm_goto (tgt := 4) d100_37 rfl ?_
          first | (rw [← cnt_t (p := p) (i := i) (by simp_all)]; exact ih c_12) | (rw [← cnt_f (p := p) (i := i) (by simp_all)]; exact ih c_12)
        · first | refine pm_iincN 1 (L2 := [(0, _), (1, _), (2, _)]) d100_31 rfl (by decide) rfl ?_ | refine pm_iinc (L2 := [(0, _), (1, _), (2, _)]) d100_31 rfl rfl (by decide) rfl ?_
          first | refine pm_iincN 1 (L2 := [(0, _), (1, _), (2, _)]) d100_34 rfl (by decide) rfl ?_ | refine pm_iinc (L2 := [(0, _), (1, _), (2, _)]) d100_34 rfl rfl (by decide) rfl ?_
          refine pm_goto (tgt := 4) d100_37 rfl ?_
          first | (rw [← cnt_t (p := p) (i := i) (by simp_all)]; exact ih c_12) | (rw [← cnt_f (p := p) (i := i) (by simp_all)]; exact ih c_12)
  refine pm_iconst (v := nI 0) d100_0 (by decide) ?_
  refine pm_istore_n (i := 1) (L2 := [(0, _), (1, _)]) d100_1 rfl (by decide) rfl ?_
  refine pm_iconst (v := nI 0) d100_2 (by decide) ?_
  refine pm_istore_n (i := 2) (L2 := [(0, _), (1, _), (2, _)]) d100_3 rfl (by decide) rfl ?_
  exact lp 0 (Nat.zero_le _)
/-- of a kind: all, the kept ones, the kept ones that are there -/
def okind (s : Stt) (q : Nat) (b1 b2 : Bool) (i : Nat) : Bool := decide (ko (sF s) i = q) && ((!b1 || ks s i) && (!b2 || !sM s i))
/-- how many different kinds the sides of a face have -/
def kof (f i : Nat) : Nat := (if ko f (sd f (3 * i + 1)) = ko f (sd f (3 * i)) then 1 else 2) + (if ko f (sd f (3 * i + 2)) = ko f (sd f (3 * i)) ∨ ko f (sd f (3 * i + 2)) = ko f (sd f (3 * i + 1)) then 0 else 1)