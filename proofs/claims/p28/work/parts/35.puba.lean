/-! THE CLASS'S CALLS (59 to 70) -/
theorem CW_mk {s : Stt} {H : Hst} {x : Txt} {A : Mem} (h1 : okS s) (h2 : Bt (sF s) A) (h3 : SA 21 s A) (h4 : HI H A) (h5 : TXA x A) (h6 : okT x) : CW (s, H, x) A := ⟨⟨h1, h2, h3⟩, h4, h5, h6⟩
theorem Bt_keep {f : Nat} {A A2 : Mem} (h : Bt f A) (hk : ∀ c, 1 ≤ c → c ≤ 20 → A2 c = A c) : Bt f A2 := by
  unfold Bt BH BS BK BF at *
  simp only [hk 1 (by omega) (by omega), hk 2 (by omega) (by omega), hk 3 (by omega) (by omega), hk 4 (by omega) (by omega), hk 5 (by omega) (by omega), hk 6 (by omega) (by omega), hk 7 (by omega) (by omega), hk 8 (by omega) (by omega), hk 9 (by omega) (by omega), hk 10 (by omega) (by omega), hk 11 (by omega) (by omega), hk 12 (by omega) (by omega), hk 13 (by omega) (by omega), hk 14 (by omega) (by omega), hk 15 (by omega) (by omega), hk 16 (by omega) (by omega), hk 17 (by omega) (by omega), hk 18 (by omega) (by omega), hk 19 (by omega) (by omega), hk 20 (by omega) (by omega)]
  exact h
theorem wi_def (v : Int32) (a b : Nat) : (decide (nI a ≤ v) && decide (v ≤ nI b)) = wi v a b := rfl
theorem none_ok (f : Nat) : (∀ i, none9 i = true → i < ns f) ∧ cnt none9 432 ≤ 40 := ⟨fun i h => (by cases h), by rw [cnt_non (p := none9) (fun _ _ => rfl)]; omega⟩
theorem pc_59 {σ : Sig} {v : Int32} {A : Mem} {Q : Int32 → Mem → Prop} (hC : CW σ A) (h : ∀ A2, CW (aSplit σ v).2 A2 → Q (aSplit σ v).1 A2) : pm_P 59 0 [(0, .ref 0), (1, .int v)] [] A Q := by
  obtain ⟨s, H, x⟩ := σ
  obtain ⟨hI, hH, hT, hX⟩ := id hC
  dsimp only at hI hH hT hX
  unfold aSplit at h
  dsimp only at h
  refine pm_iload_n (i := 1) d59_0 rfl rfl ?_
  refine pm_iconst (v := nI 1) d59_1 (by decide) ?_
  refine pm_bipush (v := nI 6) d59_2 (by decide) ?_
  refine pm_callS (k2 := 84) (As := [_, _, _]) d59_4 lk_10_86 ok_84 rfl rfl rfl (Nat.le_of_ble_eq_true rfl) rfl rfl ⟨Nat.le_of_ble_eq_true rfl, Nat.le_of_ble_eq_true rfl⟩ (Nat.le_of_ble_eq_true rfl) ?_
  refine sp_84 ?_
  rw [wi_def]
  first | refine pm_if_neB (tgt := 14) d59_7 rfl (fun c_7 => ?_) (fun c_7 => ?_) | refine pm_if_neN (tgt := 14) d59_7 rfl (by omega) (fun c_7 => ?_) (fun c_7 => ?_) | refine pm_if_ne (tgt := 14) d59_7 rfl (fun c_7 => ?_) (fun c_7 => ?_)
  · obtain ⟨a, ha1, ha6, rfl⟩ := wi_of (by decide) (by decide) c_7
    rw [if_pos c_7, nI_clamp (by omega)] at h 
    refine pm_aload_n (i := 0) d59_14 rfl rfl ?_
    refine pm_getR d59_15 lf_10_47 rfl rfl ?_
    refine pm_aload_n (i := 0) d59_18 rfl rfl ?_
    refine pm_getR d59_19 lf_10_40 rfl rfl ?_
    refine pm_callVv (k2 := 4) (As := [_]) d59_22 lk_10_90 ok_4 rfl rfl rfl (Nat.le_of_ble_eq_true rfl) rfl rfl rfl rfl rfl ⟨Nat.le_of_ble_eq_true rfl, Nat.le_of_ble_eq_true rfl⟩ (Nat.le_of_ble_eq_true rfl) ?_
    refine sp_4 hH hI.2.2 hI.1 (fun A1 f1 f2 => ?_)
    refine pm_aload_n (i := 0) d59_25 rfl rfl ?_
    refine pm_getR d59_26 lf_10_40 rfl rfl ?_
    refine pm_iload_n (i := 1) d59_29 rfl rfl ?_
    refine pm_putI d59_30 lp_10_94 rfl rfl ?_
    refine pm_aload_n (i := 0) d59_33 rfl rfl ?_
    refine pm_getR d59_34 lf_10_40 rfl rfl ?_
    refine pm_iload_n (i := 1) d59_37 rfl rfl ?_
    refine pm_ineg d59_38 ?_
    refine pm_putI d59_39 lp_10_98 rfl rfl ?_
    refine pm_aload_n (i := 0) d59_42 rfl rfl ?_
    refine pm_getR d59_43 lf_10_40 rfl rfl ?_
    refine pm_callVv (k2 := 43) (As := []) d59_46 lk_10_101 ok_43 rfl rfl rfl (Nat.le_of_ble_eq_true rfl) rfl rfl rfl rfl rfl ⟨Nat.le_of_ble_eq_true rfl, Nat.le_of_ble_eq_true rfl⟩ (Nat.le_of_ble_eq_true rfl) ?_
    refine sp_43 (fun A2 f3 f4 f5 f6 => ?_)
    have hA : ∀ c, c ≤ 20 → A2 c = A c := fun c hc => by rw [f3 c (by omega) (by omega), mset_other (by omega), mset_other (by omega)]; exact f1 c (by omega)
    have e0 : A2 21 0 = nI a := by rw [f4 0 (by decide), mset_ne (by decide), mset_at]
    have e13 : A2 1 3 = nI (sF s) := by rw [hA 1 (by omega)]; exact hI.2.1.1.1
    refine pm_aload_n (i := 0) d59_49 rfl rfl ?_
    refine pm_callVv (k2 := 88) (As := []) d59_50 lk_10_83 ok_88 rfl rfl rfl (Nat.le_of_ble_eq_true rfl) rfl rfl rfl rfl rfl ⟨Nat.le_of_ble_eq_true rfl, Nat.le_of_ble_eq_true rfl⟩ (Nat.le_of_ble_eq_true rfl) ?_
    refine sp_88 ha1 ha6 (by have := hI.1.2.1; omega) e0 e13 (fun q => by rw [← q]; exact Bt_keep hI.2.1 (fun c _ hc => hA c hc)) (fun A3 f7 f8 => ?_)
    have hS : SA 21 (a, sR s, -nI a, sB s, sW s, none9) A3 := by
      refine ⟨by rw [f7 21 (by omega)]; exact e0, ?_, ?_, ?_, ?_, ?_, fun i hi9 => ?_⟩
      · rw [f7 21 (by omega), f4 1 (by decide), mset_ne (by decide), mset_ne (by decide), f1 21 (by omega)]; exact hI.2.2.2.1
      · rw [f7 21 (by omega), f4 2 (by decide), mset_at]; rfl
      · rw [f7 21 (by omega), f4 3 (by decide), mset_ne (by decide), mset_ne (by decide), f1 21 (by omega)]; exact hI.2.2.2.2.2.1
      · rw [f7 21 (by omega), f4 4 (by decide), mset_ne (by decide), mset_ne (by decide), f1 21 (by omega)]; exact hI.2.2.2.2.2.2.1
      · rw [f7 21 (by omega), f5]; exact congrArg nI (cnt_non (fun _ _ => rfl)).symm
      · rw [f7 22 (by omega), f6 i hi9]; rfl
    refine pm_aload_n (i := 0) d59_53 rfl rfl ?_
    refine pm_getR d59_54 lf_10_12 rfl rfl ?_
    refine pm_getE d59_57 lf_10_104 rfl rfl (f8.1.2.1) ?_
    refine pm_iret d59_60 rfl (by first | rfl | exact nar_b _) ?_
    refine h A3 (CW_mk ⟨ha1, ha6, hI.1.2.2.1, hI.1.2.2.2.1, hI.1.2.2.2.2.1, hI.1.2.2.2.2.2.1, hI.1.2.2.2.2.2.2.1, none_ok a⟩ f8 hS (HI_keep f2 (fun c q1 q2 => ?_)) (TXA_keep hT ?_ ?_) hX)
    · rw [f7 c (by omega), f3 c (by omega) (by omega), mset_other (by omega), mset_other (by omega)]
    · rw [f7 47 (by omega), f3 47 (by omega) (by omega), mset_other (by omega), mset_other (by omega), f1 47 (by omega)]
    · rw [f7 48 (by omega), f3 48 (by omega) (by omega), mset_other (by omega), mset_other (by omega), f1 48 (by omega)]
  · rw [if_neg (by rw [c_7]; decide)] at h 
    refine pm_sipush (v := -1001) d59_10 (by decide) ?_
    refine pm_iret d59_13 rfl (by first | rfl | exact nar_b _) ?_
    exact h A hC
theorem pc_60 {σ : Sig} {v : Int32} {A : Mem} {Q : Int32 → Mem → Prop} (hC : CW σ A) (h : ∀ A2, CW (aRad σ v).2 A2 → Q (aRad σ v).1 A2) : pm_P 60 0 [(0, .ref 0), (1, .int v)] [] A Q := by
  obtain ⟨s, H, x⟩ := σ
  obtain ⟨hI, hH, hT, hX⟩ := id hC
  dsimp only at hI hH hT hX
  unfold aRad at h
  dsimp only at h
  refine pm_iload_n (i := 1) d60_0 rfl rfl ?_
  refine pm_bipush (v := nI 10) d60_1 (by decide) ?_
  refine pm_sipush (v := nI 2000) d60_3 (by decide) ?_
  refine pm_callS (k2 := 84) (As := [_, _, _]) d60_6 lk_10_86 ok_84 rfl rfl rfl (Nat.le_of_ble_eq_true rfl) rfl rfl ⟨Nat.le_of_ble_eq_true rfl, Nat.le_of_ble_eq_true rfl⟩ (Nat.le_of_ble_eq_true rfl) ?_
  refine sp_84 ?_
  rw [wi_def]
  first | refine pm_if_neB (tgt := 16) d60_9 rfl (fun c_9 => ?_) (fun c_9 => ?_) | refine pm_if_neN (tgt := 16) d60_9 rfl (by omega) (fun c_9 => ?_) (fun c_9 => ?_) | refine pm_if_ne (tgt := 16) d60_9 rfl (fun c_9 => ?_) (fun c_9 => ?_)
  · obtain ⟨a, ha1, ha6, rfl⟩ := wi_of (by decide) (by decide) c_9
    rw [if_pos c_9, nI_clamp (by omega)] at h 
    refine pm_aload_n (i := 0) d60_16 rfl rfl ?_
    refine pm_getR d60_17 lf_10_47 rfl rfl ?_
    refine pm_aload_n (i := 0) d60_20 rfl rfl ?_
    refine pm_getR d60_21 lf_10_40 rfl rfl ?_
    refine pm_callVv (k2 := 4) (As := [_]) d60_24 lk_10_90 ok_4 rfl rfl rfl (Nat.le_of_ble_eq_true rfl) rfl rfl rfl rfl rfl ⟨Nat.le_of_ble_eq_true rfl, Nat.le_of_ble_eq_true rfl⟩ (Nat.le_of_ble_eq_true rfl) ?_
    refine sp_4 hH hI.2.2 hI.1 (fun A1 f1 f2 => ?_)
    refine pm_aload_n (i := 0) d60_27 rfl rfl ?_
    refine pm_getR d60_28 lf_10_40 rfl rfl ?_
    refine pm_getE (v := nI (sR s)) d60_31 lf_10_107 rfl rfl (by rw [f1 21 (by omega), hI.2.2.2.1]) ?_
    refine pm_istore_n (i := 2) (L2 := [(0, _), (1, _), (2, _)]) d60_34 rfl (by decide) rfl ?_
    refine pm_aload_n (i := 0) d60_35 rfl rfl ?_
    refine pm_getR d60_36 lf_10_40 rfl rfl ?_
    refine pm_iload_n (i := 1) d60_39 rfl rfl ?_
    refine pm_putI d60_40 lp_10_107 rfl rfl ?_
    refine pm_iload_n (i := 2) d60_43 rfl rfl ?_
    refine pm_iret d60_44 rfl (by first | rfl | exact nar_b _) ?_
    refine h _ (CW_mk ⟨hI.1.1, hI.1.2.1, ha1, ha6, hI.1.2.2.2.2⟩ (Bt_keep hI.2.1 (fun c _ hc => by rw [mset_other (by omega)]; exact f1 c (by omega))) ⟨?_, ?_, ?_, ?_, ?_, ?_, fun i hi9 => ?_⟩ (HI_keep f2 (fun c q1 q2 => by rw [mset_other (by omega)])) (TXA_keep hT (by rw [mset_other (by omega), f1 47 (by omega)]) (by rw [mset_other (by omega), f1 48 (by omega)])) hX)
    · rw [mset_ne (by decide), f1 21 (by omega)]; exact hI.2.2.1
    · rw [mset_at]; rfl
    · rw [mset_ne (by decide), f1 21 (by omega)]; exact hI.2.2.2.2.1
    · rw [mset_ne (by decide), f1 21 (by omega)]; exact hI.2.2.2.2.2.1
    · rw [mset_ne (by decide), f1 21 (by omega)]; exact hI.2.2.2.2.2.2.1
    · rw [mset_ne (by decide), f1 21 (by omega)]; exact hI.2.2.2.2.2.2.2.1
    · rw [mset_other (by decide), f1 (21 + 1) (by omega)]; exact hI.2.2.2.2.2.2.2.2 i hi9
  · rw [if_neg (by rw [c_9]; decide)] at h 
    refine pm_sipush (v := -1001) d60_12 (by decide) ?_
    refine pm_iret d60_15 rfl (by first | rfl | exact nar_b _) ?_
    exact h A hC
theorem pc_61 {σ : Sig} {v : Int32} {A : Mem} {Q : Int32 → Mem → Prop} (hC : CW σ A) (h : ∀ A2, CW (aCut σ v).2 A2 → Q (aCut σ v).1 A2) : pm_P 61 0 [(0, .ref 0), (1, .int v)] [] A Q := by
  obtain ⟨s, H, x⟩ := σ
  obtain ⟨hI, hH, hT, hX⟩ := id hC
  dsimp only at hI hH hT hX
  unfold aCut at h
  dsimp only at h
  refine pm_iload_n (i := 1) d61_0 rfl rfl ?_
  refine pm_aload_n (i := 0) d61_1 rfl rfl ?_
  refine pm_getR d61_2 lf_10_40 rfl rfl ?_
  refine pm_getE d61_5 lf_10_94 rfl rfl (hI.2.2.1) ?_
  refine pm_ineg d61_8 ?_
  refine pm_aload_n (i := 0) d61_9 rfl rfl ?_
  refine pm_getR d61_10 lf_10_40 rfl rfl ?_
  refine pm_getE d61_13 lf_10_94 rfl rfl (hI.2.2.1) ?_
  refine pm_callS (k2 := 84) (As := [_, _, _]) d61_16 lk_10_86 ok_84 rfl rfl rfl (Nat.le_of_ble_eq_true rfl) rfl rfl ⟨Nat.le_of_ble_eq_true rfl, Nat.le_of_ble_eq_true rfl⟩ (Nat.le_of_ble_eq_true rfl) ?_
  refine sp_84 ?_
  rw [show (decide (-nI (sF s) ≤ v) && decide (v ≤ nI (sF s))) = wc v (sF s) from rfl]
  first | refine pm_if_neB (tgt := 26) d61_19 rfl (fun c_19 => ?_) (fun c_19 => ?_) | refine pm_if_neN (tgt := 26) d61_19 rfl (by omega) (fun c_19 => ?_) (fun c_19 => ?_) | refine pm_if_ne (tgt := 26) d61_19 rfl (fun c_19 => ?_) (fun c_19 => ?_)
  · rw [if_pos c_19] at h 
    refine pm_aload_n (i := 0) d61_26 rfl rfl ?_
    refine pm_getR d61_27 lf_10_47 rfl rfl ?_
    refine pm_aload_n (i := 0) d61_30 rfl rfl ?_
    refine pm_getR d61_31 lf_10_40 rfl rfl ?_
    refine pm_callVv (k2 := 4) (As := [_]) d61_34 lk_10_90 ok_4 rfl rfl rfl (Nat.le_of_ble_eq_true rfl) rfl rfl rfl rfl rfl ⟨Nat.le_of_ble_eq_true rfl, Nat.le_of_ble_eq_true rfl⟩ (Nat.le_of_ble_eq_true rfl) ?_
    refine sp_4 hH hI.2.2 hI.1 (fun A1 f1 f2 => ?_)
    refine pm_aload_n (i := 0) d61_37 rfl rfl ?_
    refine pm_getR d61_38 lf_10_40 rfl rfl ?_
    refine pm_iload_n (i := 1) d61_41 rfl rfl ?_
    refine pm_putI d61_42 lp_10_98 rfl rfl ?_
    have hI2 : CI (sCut s v) (mset A1 21 2 v) := by
      refine ⟨hI.1, Bt_keep hI.2.1 (fun c _ hc => by rw [mset_other (by omega)]; exact f1 c (by omega)), ?_, ?_, ?_, ?_, ?_, ?_, fun i hi9 => ?_⟩
      · rw [mset_ne (by decide), f1 21 (by omega)]; exact hI.2.2.1
      · rw [mset_ne (by decide), f1 21 (by omega)]; exact hI.2.2.2.1
      · rw [mset_at]; rfl
      · rw [mset_ne (by decide), f1 21 (by omega)]; exact hI.2.2.2.2.2.1
      · rw [mset_ne (by decide), f1 21 (by omega)]; exact hI.2.2.2.2.2.2.1
      · rw [mset_ne (by decide), f1 21 (by omega)]; exact hI.2.2.2.2.2.2.2.1
      · rw [mset_other (by decide), f1 (21 + 1) (by omega)]; exact hI.2.2.2.2.2.2.2.2 i hi9
    refine pm_aload_n (i := 0) d61_45 rfl rfl ?_
    refine pm_callV (k2 := 95) (As := []) d61_46 lk_10_110 ok_95 rfl rfl rfl (Nat.le_of_ble_eq_true rfl) rfl rfl rfl rfl rfl ⟨Nat.le_of_ble_eq_true rfl, Nat.le_of_ble_eq_true rfl⟩ (Nat.le_of_ble_eq_true rfl) ?_
    refine sp_95 hI2 ?_
    refine pm_iret d61_49 rfl (by first | rfl | exact nar_b _) ?_
    exact h _ (CW_mk hI2.1 hI2.2.1 hI2.2.2 (HI_keep f2 (fun c q1 q2 => by rw [mset_other (by omega)])) (TXA_keep hT (by rw [mset_other (by omega), f1 47 (by omega)]) (by rw [mset_other (by omega), f1 48 (by omega)])) hX)
  · rw [if_neg (by rw [c_19]; decide)] at h 
    refine pm_sipush (v := -1001) d61_22 (by decide) ?_
    refine pm_iret d61_25 rfl (by first | rfl | exact nar_b _) ?_
    exact h A hC
theorem pc_62 {σ : Sig} {v w : Int32} {A : Mem} {Q : Int32 → Mem → Prop} (hC : CW σ A) (h : ∀ A2, CW (aStock σ v w).2 A2 → Q (aStock σ v w).1 A2) : pm_P 62 0 [(0, .ref 0), (1, .int v), (2, .int w)] [] A Q := by
  obtain ⟨s, H, x⟩ := σ
  obtain ⟨hI, hH, hT, hX⟩ := id hC
  dsimp only at hI hH hT hX
  unfold aStock at h
  dsimp only at h
  refine pm_iload_n (i := 1) d62_0 rfl rfl ?_
  refine pm_bipush (v := nI 100) d62_1 (by decide) ?_
  refine pm_sipush (v := nI 20000) d62_3 (by decide) ?_
  refine pm_callS (k2 := 84) (As := [_, _, _]) d62_6 lk_10_86 ok_84 rfl rfl rfl (Nat.le_of_ble_eq_true rfl) rfl rfl ⟨Nat.le_of_ble_eq_true rfl, Nat.le_of_ble_eq_true rfl⟩ (Nat.le_of_ble_eq_true rfl) ?_
  refine sp_84 ?_
  rw [wi_def]
  first | refine pm_if_eqB (tgt := 22) d62_9 rfl (fun c_9 => ?_) (fun c_9 => ?_) | refine pm_if_eqN (tgt := 22) d62_9 rfl (by omega) (fun c_9 => ?_) (fun c_9 => ?_) | refine pm_if_eq (tgt := 22) d62_9 rfl (fun c_9 => ?_) (fun c_9 => ?_)
  · rw [c_9, Bool.false_and, if_neg (by decide)] at h 
    refine pm_sipush (v := -1001) d62_22 (by decide) ?_
    refine pm_iret d62_25 rfl (by first | rfl | exact nar_b _) ?_
    exact h A hC
  · refine pm_iload_n (i := 2) d62_12 rfl rfl ?_
    refine pm_iconst (v := nI 0) d62_13 (by decide) ?_
    refine pm_bipush (v := nI 20) d62_14 (by decide) ?_
    refine pm_callS (k2 := 84) (As := [_, _, _]) d62_16 lk_10_86 ok_84 rfl rfl rfl (Nat.le_of_ble_eq_true rfl) rfl rfl ⟨Nat.le_of_ble_eq_true rfl, Nat.le_of_ble_eq_true rfl⟩ (Nat.le_of_ble_eq_true rfl) ?_
    refine sp_84 ?_
    rw [wi_def]
    first | refine pm_if_neB (tgt := 26) d62_19 rfl (fun c_19 => ?_) (fun c_19 => ?_) | refine pm_if_neN (tgt := 26) d62_19 rfl (by omega) (fun c_19 => ?_) (fun c_19 => ?_) | refine pm_if_ne (tgt := 26) d62_19 rfl (fun c_19 => ?_) (fun c_19 => ?_)
    · rw [if_pos (by rw [c_9, c_19]; rfl)] at h
      obtain ⟨b, hb1, hb2, rfl⟩ := wi_of (by decide) (by decide) c_9
      obtain ⟨w, hw1, hw2, rfl⟩ := wi_of (by decide) (by decide) c_19
      rw [nI_clamp (by omega), nI_clamp (by omega)] at h 
      refine pm_aload_n (i := 0) d62_26 rfl rfl ?_
      refine pm_iload_n (i := 1) d62_27 rfl rfl ?_
      refine pm_iload_n (i := 2) d62_28 rfl rfl ?_
      refine pm_callV (k2 := 108) (As := [_, _]) d62_29 lk_10_114 ok_108 rfl rfl rfl (Nat.le_of_ble_eq_true rfl) rfl rfl rfl rfl rfl ⟨Nat.le_of_ble_eq_true rfl, Nat.le_of_ble_eq_true rfl⟩ (Nat.le_of_ble_eq_true rfl) ?_
      refine sp_108 hI hb1 hb2 hw2 (fun A1 f1 f2 f3 f4 => ?_)
      have hC1 : CW (s, H, x) A1 := CW_keep hC (fun c hc => f1 c (by omega)) (by rw [f1 47 (by omega)]) (f1 48 (by omega))
      first | refine pm_if_neB (tgt := 39) d62_32 rfl (fun c_32 => ?_) (fun c_32 => ?_) | refine pm_if_neN (tgt := 39) d62_32 rfl (by omega) (fun c_32 => ?_) (fun c_32 => ?_) | refine pm_if_ne (tgt := 39) d62_32 rfl (fun c_32 => ?_) (fun c_32 => ?_)
      · rw [if_pos c_32] at h
        have f5 := f4 c_32 
        refine pm_aload_n (i := 0) d62_39 rfl rfl ?_
        refine pm_getR d62_40 lf_10_47 rfl rfl ?_
        refine pm_aload_n (i := 0) d62_43 rfl rfl ?_
        refine pm_getR d62_44 lf_10_40 rfl rfl ?_
        refine pm_callVv (k2 := 4) (As := [_]) d62_47 lk_10_90 ok_4 rfl rfl rfl (Nat.le_of_ble_eq_true rfl) rfl rfl rfl rfl rfl ⟨Nat.le_of_ble_eq_true rfl, Nat.le_of_ble_eq_true rfl⟩ (Nat.le_of_ble_eq_true rfl) ?_
        refine sp_4 hC1.2.1 hC1.1.2.2 hC1.1.1 (fun A2 g1 g2 => ?_)
        refine pm_aload_n (i := 0) d62_50 rfl rfl ?_
        refine pm_getR d62_51 lf_10_40 rfl rfl ?_
        refine pm_iload_n (i := 1) d62_54 rfl rfl ?_
        refine pm_putI d62_55 lp_10_118 rfl rfl ?_
        refine pm_aload_n (i := 0) d62_58 rfl rfl ?_
        refine pm_getR d62_59 lf_10_40 rfl rfl ?_
        refine pm_iload_n (i := 2) d62_62 rfl rfl ?_
        refine pm_putI d62_63 lp_10_121 rfl rfl ?_
        refine pm_aload_n (i := 0) d62_66 rfl rfl ?_
        refine pm_getR d62_67 lf_10_61 rfl rfl ?_
        refine pm_getE (v := nI (swn s (sR s) b w).1) d62_70 lf_10_124 rfl rfl (by rw [mset_other (by decide), mset_other (by decide), g1 40 (by omega), f5.1]) ?_
        refine pm_iret d62_73 rfl (by first | rfl | exact nar_b _) ?_
        refine h _ (CW_mk ⟨hI.1.1, hI.1.2.1, hI.1.2.2.1, hI.1.2.2.2.1, hb1, hb2, hw2, hI.1.2.2.2.2.2.2.2⟩ (Bt_keep hC1.1.2.1 (fun c _ hc => by rw [mset_other (by omega), mset_other (by omega)]; exact g1 c (by omega))) ⟨?_, ?_, ?_, ?_, ?_, ?_, fun i hi9 => ?_⟩ (HI_keep g2 (fun c q1 q2 => by rw [mset_other (by omega), mset_other (by omega)])) (TXA_keep hC1.2.2.1 (by rw [mset_other (by omega), mset_other (by omega), g1 47 (by omega)]) (by rw [mset_other (by omega), mset_other (by omega), g1 48 (by omega)])) hX)
        · rw [mset_ne (by decide), mset_ne (by decide), g1 21 (by omega)]; exact hC1.1.2.2.1
        · rw [mset_ne (by decide), mset_ne (by decide), g1 21 (by omega)]; exact hC1.1.2.2.2.1
        · rw [mset_ne (by decide), mset_ne (by decide), g1 21 (by omega)]; exact hC1.1.2.2.2.2.1
        · rw [mset_ne (by decide), mset_at]; rfl
        · rw [mset_at]; rfl
        · rw [mset_ne (by decide), mset_ne (by decide), g1 21 (by omega)]; exact hC1.1.2.2.2.2.2.2.2.1
        · rw [mset_other (by decide), mset_other (by decide), g1 (21 + 1) (by omega)]; exact hC1.1.2.2.2.2.2.2.2.2 i hi9
      · refine pm_sipush (v := -1002) d62_35 (by decide) ?_
        refine pm_iret d62_38 rfl (by first | rfl | exact nar_b _) ?_
        rw [if_neg (by rw [c_32]; decide)] at h
        exact h A1 hC1
    · rw [c_19, Bool.and_false, if_neg (by decide)] at h 
      refine pm_sipush (v := -1001) d62_22 (by decide) ?_
      refine pm_iret d62_25 rfl (by first | rfl | exact nar_b _) ?_
      exact h A hC
theorem pc_63 {σ : Sig} {v : Int32} {A : Mem} {Q : Int32 → Mem → Prop} (hC : CW σ A) (h : ∀ A2, CW σ A2 → Q (aCount σ v) A2) : pm_P 63 0 [(0, .ref 0), (1, .int v)] [] A Q := by
  obtain ⟨s, H, x⟩ := σ
  obtain ⟨hI, hH, hT, hX⟩ := id hC
  dsimp only at hI hH hT hX
  have hh := h A hC
  unfold aCount at hh
  clear h
  refine pm_iload_n (i := 1) d63_0 rfl rfl ?_
  by_cases hx0 : v = nI 0
  · subst hx0
    rw [ix_nI (by decide) (by decide)] at hh
    refine pm_swIn (off := 91) (tgt := 92) d63_1 (by decide) (by decide) rfl rfl ?_
    refine pm_aload_n (i := 0) d63_92 rfl rfl ?_
    refine pm_getR d63_93 lf_10_40 rfl rfl ?_
    refine pm_getE d63_96 lf_10_94 rfl rfl (hI.2.2.1) ?_
    refine pm_iret d63_99 rfl (by first | rfl | exact nar_b _) ?_
    exact hh
  by_cases hx1 : v = nI 1
  · subst hx1
    rw [ix_nI (by decide) (by decide)] at hh
    refine pm_swIn (off := 99) (tgt := 100) d63_1 (by decide) (by decide) rfl rfl ?_
    refine pm_aload_n (i := 0) d63_100 rfl rfl ?_
    refine pm_getR d63_101 lf_10_12 rfl rfl ?_
    refine pm_getE d63_104 lf_10_104 rfl rfl (CI_nh hI) ?_
    refine pm_iret d63_107 rfl (by first | rfl | exact nar_b _) ?_
    exact hh
  by_cases hx2 : v = nI 2
  · subst hx2
    rw [ix_nI (by decide) (by decide)] at hh
    refine pm_swIn (off := 107) (tgt := 108) d63_1 (by decide) (by decide) rfl rfl ?_
    refine pm_aload_n (i := 0) d63_108 rfl rfl ?_
    refine pm_getR d63_109 lf_10_19 rfl rfl ?_
    refine pm_getE d63_112 lf_10_127 rfl rfl (CI_ns hI) ?_
    refine pm_iret d63_115 rfl (by first | rfl | exact nar_b _) ?_
    exact hh
  by_cases hx3 : v = nI 3
  · subst hx3
    rw [ix_nI (by decide) (by decide)] at hh
    refine pm_swIn (off := 115) (tgt := 116) d63_1 (by decide) (by decide) rfl rfl ?_
    refine pm_aload_n (i := 0) d63_116 rfl rfl ?_
    refine pm_getR d63_117 lf_10_33 rfl rfl ?_
    refine pm_getE d63_120 lf_10_128 rfl rfl (CI_nf hI) ?_
    refine pm_iret d63_123 rfl (by first | rfl | exact nar_b _) ?_
    exact hh
  by_cases hx4 : v = nI 4
  · subst hx4
    rw [ix_nI (by decide) (by decide)] at hh
    refine pm_swIn (off := 123) (tgt := 124) d63_1 (by decide) (by decide) rfl rfl ?_
    refine pm_aload_n (i := 0) d63_124 rfl rfl ?_
    refine pm_getR d63_125 lf_10_26 rfl rfl ?_
    refine pm_getE d63_128 lf_10_129 rfl rfl (CI_nk hI) ?_
    refine pm_iret d63_131 rfl (by first | rfl | exact nar_b _) ?_
    exact hh
  by_cases hx5 : v = nI 5
  · subst hx5
    rw [ix_nI (by decide) (by decide)] at hh
    refine pm_swIn (off := 131) (tgt := 132) d63_1 (by decide) (by decide) rfl rfl ?_
    refine pm_aload_n (i := 0) d63_132 rfl rfl ?_
    refine pm_getR d63_133 lf_10_40 rfl rfl ?_
    refine pm_getE d63_136 lf_10_107 rfl rfl (hI.2.2.2.1) ?_
    refine pm_iret d63_139 rfl (by first | rfl | exact nar_b _) ?_
    exact hh
  by_cases hx6 : v = nI 6
  · subst hx6
    rw [ix_nI (by decide) (by decide)] at hh
    refine pm_swIn (off := 139) (tgt := 140) d63_1 (by decide) (by decide) rfl rfl ?_
    refine pm_aload_n (i := 0) d63_140 rfl rfl ?_
    refine pm_getR d63_141 lf_10_40 rfl rfl ?_
    refine pm_getE d63_144 lf_10_98 rfl rfl (hI.2.2.2.2.1) ?_
    refine pm_iret d63_147 rfl (by first | rfl | exact nar_b _) ?_
    exact hh
  by_cases hx7 : v = nI 7
  · subst hx7
    rw [ix_nI (by decide) (by decide)] at hh
    refine pm_swIn (off := 147) (tgt := 148) d63_1 (by decide) (by decide) rfl rfl ?_
    refine pm_aload_n (i := 0) d63_148 rfl rfl ?_
    refine pm_callV (k2 := 95) (As := []) d63_149 lk_10_110 ok_95 rfl rfl rfl (Nat.le_of_ble_eq_true rfl) rfl rfl rfl rfl rfl ⟨Nat.le_of_ble_eq_true rfl, Nat.le_of_ble_eq_true rfl⟩ (Nat.le_of_ble_eq_true rfl) ?_
    refine sp_95 hI ?_
    refine pm_iret d63_152 rfl (by first | rfl | exact nar_b _) ?_
    exact hh
  by_cases hx8 : v = nI 8
  · subst hx8
    rw [ix_nI (by decide) (by decide)] at hh
    refine pm_swIn (off := 152) (tgt := 153) d63_1 (by decide) (by decide) rfl rfl ?_
    refine pm_aload_n (i := 0) d63_153 rfl rfl ?_
    refine pm_callV (k2 := 97) (As := []) d63_154 lk_10_130 ok_97 rfl rfl rfl (Nat.le_of_ble_eq_true rfl) rfl rfl rfl rfl rfl ⟨Nat.le_of_ble_eq_true rfl, Nat.le_of_ble_eq_true rfl⟩ (Nat.le_of_ble_eq_true rfl) ?_
    refine sp_97 hI ?_
    refine pm_iret d63_157 rfl (by first | rfl | exact nar_b _) ?_
    exact hh
  by_cases hx9 : v = nI 9
  · subst hx9
    rw [ix_nI (by decide) (by decide)] at hh
    refine pm_swIn (off := 157) (tgt := 158) d63_1 (by decide) (by decide) rfl rfl ?_
    refine pm_aload_n (i := 0) d63_158 rfl rfl ?_
    refine pm_callV (k2 := 99) (As := []) d63_159 lk_10_133 ok_99 rfl rfl rfl (Nat.le_of_ble_eq_true rfl) rfl rfl rfl rfl rfl ⟨Nat.le_of_ble_eq_true rfl, Nat.le_of_ble_eq_true rfl⟩ (Nat.le_of_ble_eq_true rfl) ?_
    refine sp_99 hI ?_
    refine pm_iret d63_162 rfl (by first | rfl | exact nar_b _) ?_
    exact hh
  by_cases hx10 : v = nI 10
  · subst hx10
    rw [ix_nI (by decide) (by decide)] at hh
    refine pm_swIn (off := 162) (tgt := 163) d63_1 (by decide) (by decide) rfl rfl ?_
    refine pm_aload_n (i := 0) d63_163 rfl rfl ?_
    refine pm_callV (k2 := 96) (As := []) d63_164 lk_10_136 ok_96 rfl rfl rfl (Nat.le_of_ble_eq_true rfl) rfl rfl rfl rfl rfl ⟨Nat.le_of_ble_eq_true rfl, Nat.le_of_ble_eq_true rfl⟩ (Nat.le_of_ble_eq_true rfl) ?_
    refine sp_96 hI ?_
    refine pm_iret d63_167 rfl (by first | rfl | exact nar_b _) ?_
    exact hh
  by_cases hx11 : v = nI 11
  · subst hx11
    rw [ix_nI (by decide) (by decide)] at hh
    refine pm_swIn (off := 167) (tgt := 168) d63_1 (by decide) (by decide) rfl rfl ?_
    refine pm_aload_n (i := 0) d63_168 rfl rfl ?_
    refine pm_callV (k2 := 98) (As := []) d63_169 lk_10_139 ok_98 rfl rfl rfl (Nat.le_of_ble_eq_true rfl) rfl rfl rfl rfl rfl ⟨Nat.le_of_ble_eq_true rfl, Nat.le_of_ble_eq_true rfl⟩ (Nat.le_of_ble_eq_true rfl) ?_
    refine sp_98 hI ?_
    refine pm_iret d63_172 rfl (by first | rfl | exact nar_b _) ?_
    exact hh
  by_cases hx12 : v = nI 12
  · subst hx12
    rw [ix_nI (by decide) (by decide)] at hh
    refine pm_swIn (off := 172) (tgt := 173) d63_1 (by decide) (by decide) rfl rfl ?_
    refine pm_aload_n (i := 0) d63_173 rfl rfl ?_
    refine pm_callV (k2 := 100) (As := []) d63_174 lk_10_142 ok_100 rfl rfl rfl (Nat.le_of_ble_eq_true rfl) rfl rfl rfl rfl rfl ⟨Nat.le_of_ble_eq_true rfl, Nat.le_of_ble_eq_true rfl⟩ (Nat.le_of_ble_eq_true rfl) ?_
    refine sp_100 hI ?_
    refine pm_iret d63_177 rfl (by first | rfl | exact nar_b _) ?_
    exact hh
  by_cases hx13 : v = nI 13
  · subst hx13
    rw [ix_nI (by decide) (by decide)] at hh
    refine pm_swIn (off := 177) (tgt := 178) d63_1 (by decide) (by decide) rfl rfl ?_
    refine pm_aload_n (i := 0) d63_178 rfl rfl ?_
    refine pm_callV (k2 := 95) (As := []) d63_179 lk_10_110 ok_95 rfl rfl rfl (Nat.le_of_ble_eq_true rfl) rfl rfl rfl rfl rfl ⟨Nat.le_of_ble_eq_true rfl, Nat.le_of_ble_eq_true rfl⟩ (Nat.le_of_ble_eq_true rfl) ?_
    refine sp_95 hI ?_
    refine pm_aload_n (i := 0) d63_182 rfl rfl ?_
    refine pm_callV (k2 := 97) (As := []) d63_183 lk_10_130 ok_97 rfl rfl rfl (Nat.le_of_ble_eq_true rfl) rfl rfl rfl rfl rfl ⟨Nat.le_of_ble_eq_true rfl, Nat.le_of_ble_eq_true rfl⟩ (Nat.le_of_ble_eq_true rfl) ?_
    refine sp_97 hI ?_
    refine pm_isub d63_186 ?_
    refine pm_aload_n (i := 0) d63_187 rfl rfl ?_
    refine pm_callV (k2 := 99) (As := []) d63_188 lk_10_133 ok_99 rfl rfl rfl (Nat.le_of_ble_eq_true rfl) rfl rfl rfl rfl rfl ⟨Nat.le_of_ble_eq_true rfl, Nat.le_of_ble_eq_true rfl⟩ (Nat.le_of_ble_eq_true rfl) ?_
    refine sp_99 hI ?_
    refine pm_iadd d63_191 ?_
    refine pm_iret d63_192 rfl (by first | rfl | exact nar_b _) ?_
    exact hh
  by_cases hx14 : v = nI 14
  · subst hx14
    rw [ix_nI (by decide) (by decide)] at hh
    refine pm_swIn (off := 192) (tgt := 193) d63_1 (by decide) (by decide) rfl rfl ?_
    refine pm_aload_n (i := 0) d63_193 rfl rfl ?_
    refine pm_getR d63_194 lf_10_40 rfl rfl ?_
    refine pm_getE d63_197 lf_10_118 rfl rfl (hI.2.2.2.2.2.1) ?_
    refine pm_iret d63_200 rfl (by first | rfl | exact nar_b _) ?_
    exact hh
  by_cases hx15 : v = nI 15
  · subst hx15
    rw [ix_nI (by decide) (by decide)] at hh
    refine pm_swIn (off := 200) (tgt := 201) d63_1 (by decide) (by decide) rfl rfl ?_
    refine pm_aload_n (i := 0) d63_201 rfl rfl ?_
    refine pm_getR d63_202 lf_10_40 rfl rfl ?_
    refine pm_getE d63_205 lf_10_121 rfl rfl (hI.2.2.2.2.2.2.1) ?_
    refine pm_iret d63_208 rfl (by first | rfl | exact nar_b _) ?_
    exact hh
  by_cases hx16 : v = nI 16
  · subst hx16
    rw [ix_nI (by decide) (by decide)] at hh
    refine pm_swIn (off := 208) (tgt := 209) d63_1 (by decide) (by decide) rfl rfl ?_
    refine pm_aload_n (i := 0) d63_209 rfl rfl ?_
    refine pm_getR d63_210 lf_10_47 rfl rfl ?_
    refine pm_getE d63_213 lf_10_145 rfl rfl (hH.2.choose_spec.2.1.1) ?_
    refine pm_iret d63_216 rfl (by first | rfl | exact nar_b _) ?_
    exact hh
  by_cases hx17 : v = nI 17
  · subst hx17
    rw [ix_nI (by decide) (by decide)] at hh
    refine pm_swIn (off := 216) (tgt := 217) d63_1 (by decide) (by decide) rfl rfl ?_
    refine pm_aload_n (i := 0) d63_217 rfl rfl ?_
    refine pm_getR d63_218 lf_10_68 rfl rfl ?_
    refine pm_getE d63_221 lf_10_146 rfl rfl (hT.1) ?_
    refine pm_iret d63_224 rfl (by first | rfl | exact nar_b _) ?_
    exact hh
  by_cases hx18 : v = nI 18
  · subst hx18
    rw [ix_nI (by decide) (by decide)] at hh
    refine pm_swIn (off := 224) (tgt := 225) d63_1 (by decide) (by decide) rfl rfl ?_
    refine pm_aload_n (i := 0) d63_225 rfl rfl ?_
    refine pm_getR d63_226 lf_10_40 rfl rfl ?_
    refine pm_getE d63_229 lf_10_149 rfl rfl (hI.2.2.2.2.2.2.2.1) ?_
    refine pm_iret d63_232 rfl (by first | rfl | exact nar_b _) ?_
    exact hh
  rw [ix_out (by decide) (by decide) (fun j hj => by rcases (show j = 0 ∨ j = 1 ∨ j = 2 ∨ j = 3 ∨ j = 4 ∨ j = 5 ∨ j = 6 ∨ j = 7 ∨ j = 8 ∨ j = 9 ∨ j = 10 ∨ j = 11 ∨ j = 12 ∨ j = 13 ∨ j = 14 ∨ j = 15 ∨ j = 16 ∨ j = 17 ∨ j = 18 by omega) with rfl | rfl | rfl | rfl | rfl | rfl | rfl | rfl | rfl | rfl | rfl | rfl | rfl | rfl | rfl | rfl | rfl | rfl | rfl <;> assumption)] at hh
  refine pm_swOut (tgt := 233) d63_1 (sw_out 19 (by decide) (by decide) (fun j hj => by rcases (show j = 0 ∨ j = 1 ∨ j = 2 ∨ j = 3 ∨ j = 4 ∨ j = 5 ∨ j = 6 ∨ j = 7 ∨ j = 8 ∨ j = 9 ∨ j = 10 ∨ j = 11 ∨ j = 12 ∨ j = 13 ∨ j = 14 ∨ j = 15 ∨ j = 16 ∨ j = 17 ∨ j = 18 by omega) with rfl | rfl | rfl | rfl | rfl | rfl | rfl | rfl | rfl | rfl | rfl | rfl | rfl | rfl | rfl | rfl | rfl | rfl | rfl <;> assumption)) rfl ?_
  refine pm_sipush (v := -1001) d63_233 (by decide) ?_
  refine pm_iret d63_236 rfl (by first | rfl | exact nar_b _) ?_
  exact hh
theorem pc_64 {σ : Sig} {A : Mem} {Q : Int32 → Mem → Prop} (hC : CW σ A) (h : ∀ A2, CW (aUndo σ).2 A2 → Q (aUndo σ).1 A2) : pm_P 64 0 [(0, .ref 0)] [] A Q := by
  obtain ⟨s, H, x⟩ := σ
  obtain ⟨hI, hH, hT, hX⟩ := id hC
  dsimp only at hI hH hT hX
  unfold aUndo at h
  dsimp only at h
  refine pm_aload_n (i := 0) d64_0 rfl rfl ?_
  refine pm_getR d64_1 lf_10_47 rfl rfl ?_
  refine pm_aload_n (i := 0) d64_4 rfl rfl ?_
  refine pm_getR d64_5 lf_10_40 rfl rfl ?_
  refine pm_callV (k2 := 6) (As := [_]) d64_8 lk_10_152 ok_6 rfl rfl rfl (Nat.le_of_ble_eq_true rfl) rfl rfl rfl rfl rfl ⟨Nat.le_of_ble_eq_true rfl, Nat.le_of_ble_eq_true rfl⟩ (Nat.le_of_ble_eq_true rfl) ?_
  refine sp_6 hH (fun q => ?_) (fun q A1 f1 f2 f3 f4 => ?_)
  · rw [if_pos q] at h
    refine pm_if_neB (tgt := 18) d64_11 rfl (fun c => by cases c) (fun c => ?_)
    refine pm_sipush (v := -1002) d64_14 (by decide) ?_
    exact pm_iret d64_17 rfl rfl (h A hC)
  rw [if_neg (by omega)] at h
  first | refine pm_if_neB (tgt := 18) d64_11 rfl (fun c_11 => ?_) (fun c_11 => ?_) | refine pm_if_neN (tgt := 18) d64_11 rfl (by omega) (fun c_11 => ?_) (fun c_11 => ?_) | refine pm_if_ne (tgt := 18) d64_11 rfl (fun c_11 => ?_) (fun c_11 => ?_)
  · refine pm_aload_n (i := 0) d64_18 rfl rfl ?_
    refine pm_callVv (k2 := 88) (As := []) d64_19 lk_10_83 ok_88 rfl rfl rfl (Nat.le_of_ble_eq_true rfl) rfl rfl rfl rfl rfl ⟨Nat.le_of_ble_eq_true rfl, Nat.le_of_ble_eq_true rfl⟩ (Nat.le_of_ble_eq_true rfl) ?_
    refine sp_88 (g := sF s) f4.1 f4.2.1 (by have := hI.1.2.1; omega) f3.1 (by rw [f1 1 (by omega)]; exact hI.2.1.1.1) (fun q => by rw [← q]; exact Bt_keep hI.2.1 (fun c _ hc => f1 c (by omega))) (fun A2 g1 g2 => ?_)
    have hH2 : HI (H.1 - 1, H.2) A2 := HI_keep f2 (fun c q1 q2 => g1 c (by omega))
    refine pm_aload_n (i := 0) d64_22 rfl rfl ?_
    refine pm_getR d64_23 lf_10_47 rfl rfl ?_
    refine pm_getE d64_26 lf_10_145 rfl rfl (hH2.2.choose_spec.2.1.1) ?_
    refine pm_iret d64_29 rfl (by first | rfl | exact nar_b _) ?_
    exact h A2 (CW_mk f4 g2 (SA_keep f3 (g1 21 (by omega)) (g1 (21 + 1) (by omega))) hH2 (TXA_keep hT (by rw [g1 47 (by omega), f1 47 (by omega)]) (by rw [g1 48 (by omega), f1 48 (by omega)])) hX)
  · cases c_11
theorem opI_ne {d : Int32} {o : Option Nat} (h : ∀ k, o = some k → k < 2 ^ 31) : (opI (-1) o = -1 → o = none) ∧ (¬ opI (-1) o = -1 → opI (-1) o = opI d o) := by
  cases o with
  | none => exact ⟨fun _ => rfl, fun q => absurd rfl q⟩
  | some k =>
    have hk := h k rfl
    refine ⟨fun q => ?_, fun _ => rfl⟩
    have q : nI k = -1 := q
    have := nI_pos (n := k) hk
    rw [q] at this
    exact absurd (by decide) this