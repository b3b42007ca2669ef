theorem kx_states {cA : ClassId} {N : Nat} {f g : Nat → Option Nat} (h : ∀ j, j < N → f j = g j) : vp_cell cA (N, .inr (.inr (.inr (.inr f)))) = vp_cell cA (N, .inr (.inr (.inr (.inr g)))) := by
  rw [vp_cell_q, vp_cell_q]
  unfold arrV
  congr 1
  apply Array.ext
  · simp
  · intro i h1 h2
    simp at h1 ⊢
    rw [h i h1]
def kSt : Nat → Int32 := fun j => ([2, 1000, -2, 6000, 3, 0] : List Int32).getD j 0
def kA0 : Mem := fun c => bif Nat.beq c 21 || (Nat.ble 25 c && Nat.ble c 35 && Nat.beq (c % 2) 1) then kSt else bif Nat.beq c 24 then (fun j => nI (25 + 2 * j)) else (fun _ => 0)
def kA1 : Mem := fun c => bif Nat.beq c 1 then upd (upd (upd (upd (upd (fun _ => 0) (0 : Int32).toNatClampNeg 2) (1 : Int32).toNatClampNeg 1000) (2 : Int32).toNatClampNeg (-2)) (3 : Int32).toNatClampNeg 6000) (4 : Int32).toNatClampNeg 3 else (fun _ => 0)
def SG0 : Sig := ((2, 1000, -2, 6000, 3, none9), (0, fun _ => (2, 1000, -2, 6000, 3, none9)), (0, fun _ => 0))
theorem SG_ok : okS SG0.1 := ⟨by decide, by decide, by decide, by decide, by decide, by decide, by decide, (none_ok 2).1, (none_ok 2).2⟩
theorem k_cw {Q : Int32 → Mem → Prop} (h : ∀ A1, CW SG0 A1 → Q 0 A1) : pm_P 88 0 [(0, .ref 0)] [] kA0 Q := by
  refine sp_88 (f := 2) (g := 0) (by decide) (by decide) (by decide) (by decide) (by decide) (fun h9 => absurd h9 (by decide)) (fun A2 hk hB => ?_)
  refine h A2 (CW_mk SG_ok hB ?_ ?_ ?_ ⟨Nat.zero_le _, fun i hi => absurd hi (Nat.not_lt_zero i)⟩)
  · unfold SA
    rw [hk 21 (Or.inr (by decide)), hk 22 (Or.inr (by decide))]
    exact ⟨by decide, by decide, by decide, by decide, by decide, by rw [cnt_non (p := sM (2, 1000, -2, 6000, 3, none9)) (fun _ _ => rfl)]; decide, fun i _ => rfl⟩
  · refine ⟨Nat.zero_le _, fun j => 25 + 2 * j, ⟨fun j hj => ⟨j, hj, rfl⟩, fun i j _ _ h9 => by dsimp only at h9; omega⟩, ⟨by rw [hk 23 (Or.inr (by decide))]; decide, fun j _ => by rw [hk 24 (Or.inr (by decide))]; rfl⟩, fun j hj => absurd hj (Nat.not_lt_zero j)⟩
  · exact ⟨by rw [hk 47 (Or.inr (by decide))]; decide, fun i hi => absurd hi (Nat.not_lt_zero i)⟩
set_option maxRecDepth 20000 in
theorem kn_0 {D : va_G} {tyc : Nat → ClassId} {a : Nat} {Q : va_W → Prop} (h : ∀ q1 q2 : Nat, Q [(a, .inr (0, [.ref q1, .ref q2, .int 0])), (q1, .inl (tyc 0, 864, .inl (fun _ => 0))), (q2, .inl (tyc 0, 864, .inl (fun _ => 0)))]) : kc_P D tyc 0 2 1728 0 [(0, .ref a)] [] [(a, .inr (0, [.null, .null, .int 0]))] 0 0 Q := by
  refine kc_aload_n (i := 0) (x := a) d0_0 rfl (by simp) ?_
  refine kc_obj d0_1 kl_0_3 (Nat.le_of_ble_eq_true rfl) (Nat.le_of_ble_eq_true rfl) ?_
  refine kc_aload_n (i := 0) (x := a) d0_4 rfl (by simp) ?_
  refine kc_sipush (v := 864) d0_5 (by decide) ?_
  refine kc_newa (t := 0) (N := 864) (a0 := (864, .inl (fun _ => 0))) d0_8 rfl kw_int (fun _ => rfl) (fun _ => rfl) (by decide) (by decide) (Nat.le_of_ble_eq_true rfl) (Nat.le_of_ble_eq_true rfl) (Nat.le_of_ble_eq_true rfl) (fun q1 => ?_)
  refine kc_putF (q := (RX0, TX0, 3)) (j := 0) (i := 0) (ws2 := [(a, .inr (0, [.ref q1, .null, .int 0])), (q1, .inl (tyc 0, 864, .inl (fun _ => 0)))]) d0_10 kl_0_9 cls_all rfl (Nat.le_of_ble_eq_true rfl) rfl (by decide +kernel) (tyX0_ok 0 (Nat.le_of_ble_eq_true rfl)) rfl rfl rfl (Nat.le_of_ble_eq_true rfl) rfl ?_
  refine kc_aload_n (i := 0) (x := a) d0_13 rfl (by simp) ?_
  refine kc_sipush (v := 864) d0_14 (by decide) ?_
  refine kc_newa (t := 0) (N := 864) (a0 := (864, .inl (fun _ => 0))) d0_17 rfl kw_int (fun _ => rfl) (fun _ => rfl) (by decide) (by decide) (Nat.le_of_ble_eq_true rfl) (Nat.le_of_ble_eq_true rfl) (Nat.le_of_ble_eq_true rfl) (fun q2 => ?_)
  refine kc_putF (q := (RX0, TX0, 3)) (j := 1) (i := 0) (ws2 := [(a, .inr (0, [.ref q1, .ref q2, .int 0])), (q1, .inl (tyc 0, 864, .inl (fun _ => 0))), (q2, .inl (tyc 0, 864, .inl (fun _ => 0)))]) d0_19 kl_0_15 cls_all rfl (Nat.le_of_ble_eq_true rfl) rfl (by decide +kernel) (tyX0_ok 1 (Nat.le_of_ble_eq_true rfl)) rfl rfl rfl (Nat.le_of_ble_eq_true rfl) rfl ?_
  exact kc_vret d0_22 rfl rfl (h q1 q2)
set_option maxRecDepth 20000 in
theorem kn_7 {D : va_G} {tyc : Nat → ClassId} {a : Nat} {Q : va_W → Prop} (h : ∀ q1 q2 q3 : Nat, Q [(a, .inr (2, [.ref q1, .ref q2, .ref q3, .int 0, .int 0])), (q1, .inl (tyc 0, 146, .inl (fun _ => 0))), (q2, .inl (tyc 0, 146, .inl (fun _ => 0))), (q3, .inl (tyc 0, 146, .inl (fun _ => 0)))]) : kc_P D tyc 7 3 438 0 [(0, .ref a)] [] [(a, .inr (2, [.null, .null, .null, .int 0, .int 0]))] 0 0 Q := by
  refine kc_aload_n (i := 0) (x := a) d7_0 rfl (by simp) ?_
  refine kc_obj d7_1 kl_2_3 (Nat.le_of_ble_eq_true rfl) (Nat.le_of_ble_eq_true rfl) ?_
  refine kc_aload_n (i := 0) (x := a) d7_4 rfl (by simp) ?_
  refine kc_sipush (v := 146) d7_5 (by decide) ?_
  refine kc_newa (t := 0) (N := 146) (a0 := (146, .inl (fun _ => 0))) d7_8 rfl kw_int (fun _ => rfl) (fun _ => rfl) (by decide) (by decide) (Nat.le_of_ble_eq_true rfl) (Nat.le_of_ble_eq_true rfl) (Nat.le_of_ble_eq_true rfl) (fun q1 => ?_)
  refine kc_putF (q := (RX2, TX2, 5)) (j := 0) (i := 0) (ws2 := [(a, .inr (2, [.ref q1, .null, .null, .int 0, .int 0])), (q1, .inl (tyc 0, 146, .inl (fun _ => 0)))]) d7_10 kl_2_9 cls_all rfl (Nat.le_of_ble_eq_true rfl) rfl (by decide +kernel) (tyX2_ok 0 (Nat.le_of_ble_eq_true rfl)) rfl rfl rfl (Nat.le_of_ble_eq_true rfl) rfl ?_
  refine kc_aload_n (i := 0) (x := a) d7_13 rfl (by simp) ?_
  refine kc_sipush (v := 146) d7_14 (by decide) ?_
  refine kc_newa (t := 0) (N := 146) (a0 := (146, .inl (fun _ => 0))) d7_17 rfl kw_int (fun _ => rfl) (fun _ => rfl) (by decide) (by decide) (Nat.le_of_ble_eq_true rfl) (Nat.le_of_ble_eq_true rfl) (Nat.le_of_ble_eq_true rfl) (fun q2 => ?_)
  refine kc_putF (q := (RX2, TX2, 5)) (j := 1) (i := 0) (ws2 := [(a, .inr (2, [.ref q1, .ref q2, .null, .int 0, .int 0])), (q1, .inl (tyc 0, 146, .inl (fun _ => 0))), (q2, .inl (tyc 0, 146, .inl (fun _ => 0)))]) d7_19 kl_2_15 cls_all rfl (Nat.le_of_ble_eq_true rfl) rfl (by decide +kernel) (tyX2_ok 1 (Nat.le_of_ble_eq_true rfl)) rfl rfl rfl (Nat.le_of_ble_eq_true rfl) rfl ?_
  refine kc_aload_n (i := 0) (x := a) d7_22 rfl (by simp) ?_
  refine kc_sipush (v := 146) d7_23 (by decide) ?_
  refine kc_newa (t := 0) (N := 146) (a0 := (146, .inl (fun _ => 0))) d7_26 rfl kw_int (fun _ => rfl) (fun _ => rfl) (by decide) (by decide) (Nat.le_of_ble_eq_true rfl) (Nat.le_of_ble_eq_true rfl) (Nat.le_of_ble_eq_true rfl) (fun q3 => ?_)
  refine kc_putF (q := (RX2, TX2, 5)) (j := 2) (i := 0) (ws2 := [(a, .inr (2, [.ref q1, .ref q2, .ref q3, .int 0, .int 0])), (q1, .inl (tyc 0, 146, .inl (fun _ => 0))), (q2, .inl (tyc 0, 146, .inl (fun _ => 0))), (q3, .inl (tyc 0, 146, .inl (fun _ => 0)))]) d7_28 kl_2_18 cls_all rfl (Nat.le_of_ble_eq_true rfl) rfl (by decide +kernel) (tyX2_ok 2 (Nat.le_of_ble_eq_true rfl)) rfl rfl rfl (Nat.le_of_ble_eq_true rfl) rfl ?_
  exact kc_vret d7_31 rfl rfl (h q1 q2 q3)
set_option maxRecDepth 20000 in
theorem kn_17 {D : va_G} {tyc : Nat → ClassId} {a : Nat} {Q : va_W → Prop} (h : ∀ q1 q2 q3 q4 q5 q6 : Nat, Q [(a, .inr (3, [.ref q1, .ref q2, .ref q3, .ref q4, .ref q5, .ref q6, .int 0, .int 0])), (q1, .inl (tyc 0, 432, .inl (fun _ => 0))), (q2, .inl (tyc 0, 432, .inl (fun _ => 0))), (q3, .inl (tyc 0, 432, .inl (fun _ => 0))), (q4, .inl (tyc 0, 432, .inl (fun _ => 0))), (q5, .inl (tyc 0, 16, .inl (fun _ => 0))), (q6, .inl (tyc 0, 16, .inl (fun _ => 0)))]) : kc_P D tyc 17 6 1760 0 [(0, .ref a)] [] [(a, .inr (3, [.null, .null, .null, .null, .null, .null, .int 0, .int 0]))] 0 0 Q := by
  refine kc_aload_n (i := 0) (x := a) d17_0 rfl (by simp) ?_
  refine kc_obj d17_1 kl_3_3 (Nat.le_of_ble_eq_true rfl) (Nat.le_of_ble_eq_true rfl) ?_
  refine kc_aload_n (i := 0) (x := a) d17_4 rfl (by simp) ?_
  refine kc_sipush (v := 432) d17_5 (by decide) ?_
  refine kc_newa (t := 0) (N := 432) (a0 := (432, .inl (fun _ => 0))) d17_8 rfl kw_int (fun _ => rfl) (fun _ => rfl) (by decide) (by decide) (Nat.le_of_ble_eq_true rfl) (Nat.le_of_ble_eq_true rfl) (Nat.le_of_ble_eq_true rfl) (fun q1 => ?_)
  refine kc_putF (q := (RX3, TX3, 8)) (j := 0) (i := 0) (ws2 := [(a, .inr (3, [.ref q1, .null, .null, .null, .null, .null, .int 0, .int 0])), (q1, .inl (tyc 0, 432, .inl (fun _ => 0)))]) d17_10 kl_3_9 cls_all rfl (Nat.le_of_ble_eq_true rfl) rfl (by decide +kernel) (tyX3_ok 0 (Nat.le_of_ble_eq_true rfl)) rfl rfl rfl (Nat.le_of_ble_eq_true rfl) rfl ?_
  refine kc_aload_n (i := 0) (x := a) d17_13 rfl (by simp) ?_
  refine kc_sipush (v := 432) d17_14 (by decide) ?_
  refine kc_newa (t := 0) (N := 432) (a0 := (432, .inl (fun _ => 0))) d17_17 rfl kw_int (fun _ => rfl) (fun _ => rfl) (by decide) (by decide) (Nat.le_of_ble_eq_true rfl) (Nat.le_of_ble_eq_true rfl) (Nat.le_of_ble_eq_true rfl) (fun q2 => ?_)
  refine kc_putF (q := (RX3, TX3, 8)) (j := 1) (i := 0) (ws2 := [(a, .inr (3, [.ref q1, .ref q2, .null, .null, .null, .null, .int 0, .int 0])), (q1, .inl (tyc 0, 432, .inl (fun _ => 0))), (q2, .inl (tyc 0, 432, .inl (fun _ => 0)))]) d17_19 kl_3_15 cls_all rfl (Nat.le_of_ble_eq_true rfl) rfl (by decide +kernel) (tyX3_ok 1 (Nat.le_of_ble_eq_true rfl)) rfl rfl rfl (Nat.le_of_ble_eq_true rfl) rfl ?_
  refine kc_aload_n (i := 0) (x := a) d17_22 rfl (by simp) ?_
  refine kc_sipush (v := 432) d17_23 (by decide) ?_
  refine kc_newa (t := 0) (N := 432) (a0 := (432, .inl (fun _ => 0))) d17_26 rfl kw_int (fun _ => rfl) (fun _ => rfl) (by decide) (by decide) (Nat.le_of_ble_eq_true rfl) (Nat.le_of_ble_eq_true rfl) (Nat.le_of_ble_eq_true rfl) (fun q3 => ?_)
  refine kc_putF (q := (RX3, TX3, 8)) (j := 2) (i := 0) (ws2 := [(a, .inr (3, [.ref q1, .ref q2, .ref q3, .null, .null, .null, .int 0, .int 0])), (q1, .inl (tyc 0, 432, .inl (fun _ => 0))), (q2, .inl (tyc 0, 432, .inl (fun _ => 0))), (q3, .inl (tyc 0, 432, .inl (fun _ => 0)))]) d17_28 kl_3_18 cls_all rfl (Nat.le_of_ble_eq_true rfl) rfl (by decide +kernel) (tyX3_ok 2 (Nat.le_of_ble_eq_true rfl)) rfl rfl rfl (Nat.le_of_ble_eq_true rfl) rfl ?_
  refine kc_aload_n (i := 0) (x := a) d17_31 rfl (by simp) ?_
  refine kc_sipush (v := 432) d17_32 (by decide) ?_
  refine kc_newa (t := 0) (N := 432) (a0 := (432, .inl (fun _ => 0))) d17_35 rfl kw_int (fun _ => rfl) (fun _ => rfl) (by decide) (by decide) (Nat.le_of_ble_eq_true rfl) (Nat.le_of_ble_eq_true rfl) (Nat.le_of_ble_eq_true rfl) (fun q4 => ?_)
  refine kc_putF (q := (RX3, TX3, 8)) (j := 3) (i := 0) (ws2 := [(a, .inr (3, [.ref q1, .ref q2, .ref q3, .ref q4, .null, .null, .int 0, .int 0])), (q1, .inl (tyc 0, 432, .inl (fun _ => 0))), (q2, .inl (tyc 0, 432, .inl (fun _ => 0))), (q3, .inl (tyc 0, 432, .inl (fun _ => 0))), (q4, .inl (tyc 0, 432, .inl (fun _ => 0)))]) d17_37 kl_3_21 cls_all rfl (Nat.le_of_ble_eq_true rfl) rfl (by decide +kernel) (tyX3_ok 3 (Nat.le_of_ble_eq_true rfl)) rfl rfl rfl (Nat.le_of_ble_eq_true rfl) rfl ?_
  refine kc_aload_n (i := 0) (x := a) d17_40 rfl (by simp) ?_
  refine kc_bipush (v := 16) d17_41 (by decide) ?_
  refine kc_newa (t := 0) (N := 16) (a0 := (16, .inl (fun _ => 0))) d17_43 rfl kw_int (fun _ => rfl) (fun _ => rfl) (by decide) (by decide) (Nat.le_of_ble_eq_true rfl) (Nat.le_of_ble_eq_true rfl) (Nat.le_of_ble_eq_true rfl) (fun q5 => ?_)
  refine kc_putF (q := (RX3, TX3, 8)) (j := 4) (i := 0) (ws2 := [(a, .inr (3, [.ref q1, .ref q2, .ref q3, .ref q4, .ref q5, .null, .int 0, .int 0])), (q1, .inl (tyc 0, 432, .inl (fun _ => 0))), (q2, .inl (tyc 0, 432, .inl (fun _ => 0))), (q3, .inl (tyc 0, 432, .inl (fun _ => 0))), (q4, .inl (tyc 0, 432, .inl (fun _ => 0))), (q5, .inl (tyc 0, 16, .inl (fun _ => 0)))]) d17_45 kl_3_24 cls_all rfl (Nat.le_of_ble_eq_true rfl) rfl (by decide +kernel) (tyX3_ok 4 (Nat.le_of_ble_eq_true rfl)) rfl rfl rfl (Nat.le_of_ble_eq_true rfl) rfl ?_
  refine kc_aload_n (i := 0) (x := a) d17_48 rfl (by simp) ?_
  refine kc_bipush (v := 16) d17_49 (by decide) ?_
  refine kc_newa (t := 0) (N := 16) (a0 := (16, .inl (fun _ => 0))) d17_51 rfl kw_int (fun _ => rfl) (fun _ => rfl) (by decide) (by decide) (Nat.le_of_ble_eq_true rfl) (Nat.le_of_ble_eq_true rfl) (Nat.le_of_ble_eq_true rfl) (fun q6 => ?_)
  refine kc_putF (q := (RX3, TX3, 8)) (j := 5) (i := 0) (ws2 := [(a, .inr (3, [.ref q1, .ref q2, .ref q3, .ref q4, .ref q5, .ref q6, .int 0, .int 0])), (q1, .inl (tyc 0, 432, .inl (fun _ => 0))), (q2, .inl (tyc 0, 432, .inl (fun _ => 0))), (q3, .inl (tyc 0, 432, .inl (fun _ => 0))), (q4, .inl (tyc 0, 432, .inl (fun _ => 0))), (q5, .inl (tyc 0, 16, .inl (fun _ => 0))), (q6, .inl (tyc 0, 16, .inl (fun _ => 0)))]) d17_53 kl_3_27 cls_all rfl (Nat.le_of_ble_eq_true rfl) rfl (by decide +kernel) (tyX3_ok 5 (Nat.le_of_ble_eq_true rfl)) rfl rfl rfl (Nat.le_of_ble_eq_true rfl) rfl ?_
  exact kc_vret d17_56 rfl rfl (h q1 q2 q3 q4 q5 q6)
set_option maxRecDepth 20000 in
theorem kn_26 {D : va_G} {tyc : Nat → ClassId} {a : Nat} {Q : va_W → Prop} (h : ∀ q1 : Nat, Q [(a, .inr (4, [.ref q1, .int 0, .int 0, .int 0])), (q1, .inl (tyc 0, 20, .inl (fun _ => 0)))]) : kc_P D tyc 26 1 20 0 [(0, .ref a)] [] [(a, .inr (4, [.null, .int 0, .int 0, .int 0]))] 0 0 Q := by
  refine kc_aload_n (i := 0) (x := a) d26_0 rfl (by simp) ?_
  refine kc_obj d26_1 kl_4_3 (Nat.le_of_ble_eq_true rfl) (Nat.le_of_ble_eq_true rfl) ?_
  refine kc_aload_n (i := 0) (x := a) d26_4 rfl (by simp) ?_
  refine kc_bipush (v := 20) d26_5 (by decide) ?_
  refine kc_newa (t := 0) (N := 20) (a0 := (20, .inl (fun _ => 0))) d26_7 rfl kw_int (fun _ => rfl) (fun _ => rfl) (by decide) (by decide) (Nat.le_of_ble_eq_true rfl) (Nat.le_of_ble_eq_true rfl) (Nat.le_of_ble_eq_true rfl) (fun q1 => ?_)
  refine kc_putF (q := (RX4, TX4, 4)) (j := 0) (i := 0) (ws2 := [(a, .inr (4, [.ref q1, .int 0, .int 0, .int 0])), (q1, .inl (tyc 0, 20, .inl (fun _ => 0)))]) d26_9 kl_4_9 cls_all rfl (Nat.le_of_ble_eq_true rfl) rfl (by decide +kernel) (tyX4_ok 0 (Nat.le_of_ble_eq_true rfl)) rfl rfl rfl (Nat.le_of_ble_eq_true rfl) rfl ?_
  exact kc_vret d26_12 rfl rfl (h q1)
set_option maxRecDepth 20000 in
theorem kn_29 {D : va_G} {tyc : Nat → ClassId} {a : Nat} {Q : va_W → Prop} (h : ∀ q1 q2 q3 q4 q5 q6 : Nat, Q [(a, .inr (5, [.ref q1, .ref q2, .int 0, .ref q3, .ref q4, .ref q5, .ref q6, .int 0])), (q1, .inl (tyc 0, 432, .inl (fun _ => 0))), (q2, .inl (tyc 0, 432, .inl (fun _ => 0))), (q3, .inl (tyc 0, 16, .inl (fun _ => 0))), (q4, .inl (tyc 0, 432, .inl (fun _ => 0))), (q5, .inl (tyc 0, 432, .inl (fun _ => 0))), (q6, .inl (tyc 0, 432, .inl (fun _ => 0)))]) : kc_P D tyc 29 6 2176 0 [(0, .ref a)] [] [(a, .inr (5, [.null, .null, .int 0, .null, .null, .null, .null, .int 0]))] 0 0 Q := by
  refine kc_aload_n (i := 0) (x := a) d29_0 rfl (by simp) ?_
  refine kc_obj d29_1 kl_5_3 (Nat.le_of_ble_eq_true rfl) (Nat.le_of_ble_eq_true rfl) ?_
  refine kc_aload_n (i := 0) (x := a) d29_4 rfl (by simp) ?_
  refine kc_sipush (v := 432) d29_5 (by decide) ?_
  refine kc_newa (t := 0) (N := 432) (a0 := (432, .inl (fun _ => 0))) d29_8 rfl kw_int (fun _ => rfl) (fun _ => rfl) (by decide) (by decide) (Nat.le_of_ble_eq_true rfl) (Nat.le_of_ble_eq_true rfl) (Nat.le_of_ble_eq_true rfl) (fun q1 => ?_)
  refine kc_putF (q := (RX5, TX5, 8)) (j := 0) (i := 0) (ws2 := [(a, .inr (5, [.ref q1, .null, .int 0, .null, .null, .null, .null, .int 0])), (q1, .inl (tyc 0, 432, .inl (fun _ => 0)))]) d29_10 kl_5_9 cls_all rfl (Nat.le_of_ble_eq_true rfl) rfl (by decide +kernel) (tyX5_ok 0 (Nat.le_of_ble_eq_true rfl)) rfl rfl rfl (Nat.le_of_ble_eq_true rfl) rfl ?_
  refine kc_aload_n (i := 0) (x := a) d29_13 rfl (by simp) ?_
  refine kc_sipush (v := 432) d29_14 (by decide) ?_
  refine kc_newa (t := 0) (N := 432) (a0 := (432, .inl (fun _ => 0))) d29_17 rfl kw_int (fun _ => rfl) (fun _ => rfl) (by decide) (by decide) (Nat.le_of_ble_eq_true rfl) (Nat.le_of_ble_eq_true rfl) (Nat.le_of_ble_eq_true rfl) (fun q2 => ?_)
  refine kc_putF (q := (RX5, TX5, 8)) (j := 1) (i := 0) (ws2 := [(a, .inr (5, [.ref q1, .ref q2, .int 0, .null, .null, .null, .null, .int 0])), (q1, .inl (tyc 0, 432, .inl (fun _ => 0))), (q2, .inl (tyc 0, 432, .inl (fun _ => 0)))]) d29_19 kl_5_15 cls_all rfl (Nat.le_of_ble_eq_true rfl) rfl (by decide +kernel) (tyX5_ok 1 (Nat.le_of_ble_eq_true rfl)) rfl rfl rfl (Nat.le_of_ble_eq_true rfl) rfl ?_
  refine kc_aload_n (i := 0) (x := a) d29_22 rfl (by simp) ?_
  refine kc_bipush (v := 16) d29_23 (by decide) ?_
  refine kc_newa (t := 0) (N := 16) (a0 := (16, .inl (fun _ => 0))) d29_25 rfl kw_int (fun _ => rfl) (fun _ => rfl) (by decide) (by decide) (Nat.le_of_ble_eq_true rfl) (Nat.le_of_ble_eq_true rfl) (Nat.le_of_ble_eq_true rfl) (fun q3 => ?_)
  refine kc_putF (q := (RX5, TX5, 8)) (j := 3) (i := 0) (ws2 := [(a, .inr (5, [.ref q1, .ref q2, .int 0, .ref q3, .null, .null, .null, .int 0])), (q1, .inl (tyc 0, 432, .inl (fun _ => 0))), (q2, .inl (tyc 0, 432, .inl (fun _ => 0))), (q3, .inl (tyc 0, 16, .inl (fun _ => 0)))]) d29_27 kl_5_18 cls_all rfl (Nat.le_of_ble_eq_true rfl) rfl (by decide +kernel) (tyX5_ok 3 (Nat.le_of_ble_eq_true rfl)) rfl rfl rfl (Nat.le_of_ble_eq_true rfl) rfl ?_
  refine kc_aload_n (i := 0) (x := a) d29_30 rfl (by simp) ?_
  refine kc_sipush (v := 432) d29_31 (by decide) ?_
  refine kc_newa (t := 0) (N := 432) (a0 := (432, .inl (fun _ => 0))) d29_34 rfl kw_int (fun _ => rfl) (fun _ => rfl) (by decide) (by decide) (Nat.le_of_ble_eq_true rfl) (Nat.le_of_ble_eq_true rfl) (Nat.le_of_ble_eq_true rfl) (fun q4 => ?_)
  refine kc_putF (q := (RX5, TX5, 8)) (j := 4) (i := 0) (ws2 := [(a, .inr (5, [.ref q1, .ref q2, .int 0, .ref q3, .ref q4, .null, .null, .int 0])), (q1, .inl (tyc 0, 432, .inl (fun _ => 0))), (q2, .inl (tyc 0, 432, .inl (fun _ => 0))), (q3, .inl (tyc 0, 16, .inl (fun _ => 0))), (q4, .inl (tyc 0, 432, .inl (fun _ => 0)))]) d29_36 kl_5_21 cls_all rfl (Nat.le_of_ble_eq_true rfl) rfl (by decide +kernel) (tyX5_ok 4 (Nat.le_of_ble_eq_true rfl)) rfl rfl rfl (Nat.le_of_ble_eq_true rfl) rfl ?_
  refine kc_aload_n (i := 0) (x := a) d29_39 rfl (by simp) ?_
  refine kc_sipush (v := 432) d29_40 (by decide) ?_
  refine kc_newa (t := 0) (N := 432) (a0 := (432, .inl (fun _ => 0))) d29_43 rfl kw_int (fun _ => rfl) (fun _ => rfl) (by decide) (by decide) (Nat.le_of_ble_eq_true rfl) (Nat.le_of_ble_eq_true rfl) (Nat.le_of_ble_eq_true rfl) (fun q5 => ?_)
  refine kc_putF (q := (RX5, TX5, 8)) (j := 5) (i := 0) (ws2 := [(a, .inr (5, [.ref q1, .ref q2, .int 0, .ref q3, .ref q4, .ref q5, .null, .int 0])), (q1, .inl (tyc 0, 432, .inl (fun _ => 0))), (q2, .inl (tyc 0, 432, .inl (fun _ => 0))), (q3, .inl (tyc 0, 16, .inl (fun _ => 0))), (q4, .inl (tyc 0, 432, .inl (fun _ => 0))), (q5, .inl (tyc 0, 432, .inl (fun _ => 0)))]) d29_45 kl_5_24 cls_all rfl (Nat.le_of_ble_eq_true rfl) rfl (by decide +kernel) (tyX5_ok 5 (Nat.le_of_ble_eq_true rfl)) rfl rfl rfl (Nat.le_of_ble_eq_true rfl) rfl ?_
  refine kc_aload_n (i := 0) (x := a) d29_48 rfl (by simp) ?_
  refine kc_sipush (v := 432) d29_49 (by decide) ?_
  refine kc_newa (t := 0) (N := 432) (a0 := (432, .inl (fun _ => 0))) d29_52 rfl kw_int (fun _ => rfl) (fun _ => rfl) (by decide) (by decide) (Nat.le_of_ble_eq_true rfl) (Nat.le_of_ble_eq_true rfl) (Nat.le_of_ble_eq_true rfl) (fun q6 => ?_)
  refine kc_putF (q := (RX5, TX5, 8)) (j := 6) (i := 0) (ws2 := [(a, .inr (5, [.ref q1, .ref q2, .int 0, .ref q3, .ref q4, .ref q5, .ref q6, .int 0])), (q1, .inl (tyc 0, 432, .inl (fun _ => 0))), (q2, .inl (tyc 0, 432, .inl (fun _ => 0))), (q3, .inl (tyc 0, 16, .inl (fun _ => 0))), (q4, .inl (tyc 0, 432, .inl (fun _ => 0))), (q5, .inl (tyc 0, 432, .inl (fun _ => 0))), (q6, .inl (tyc 0, 432, .inl (fun _ => 0)))]) d29_54 kl_5_27 cls_all rfl (Nat.le_of_ble_eq_true rfl) rfl (by decide +kernel) (tyX5_ok 6 (Nat.le_of_ble_eq_true rfl)) rfl rfl rfl (Nat.le_of_ble_eq_true rfl) rfl ?_
  exact kc_vret d29_57 rfl rfl (h q1 q2 q3 q4 q5 q6)
set_option maxRecDepth 20000 in
theorem kn_39 {D : va_G} {tyc : Nat → ClassId} {a : Nat} {Q : va_W → Prop} (h : ∀ q1 : Nat, Q [(a, .inr (6, [.int 2, .int 1000, .int (-2), .int 6000, .int 3, .int 0, .ref q1])), (q1, .inl (tyc 2, 432, .inl (fun _ => 0)))]) : kc_P D tyc 39 1 432 0 [(0, .ref a)] [] [(a, .inr (6, [.int 0, .int 0, .int 0, .int 0, .int 0, .int 0, .null]))] 0 0 Q := by
  refine kc_aload_n (i := 0) (x := a) d39_0 rfl (by simp) ?_
  refine kc_obj d39_1 kl_6_3 (Nat.le_of_ble_eq_true rfl) (Nat.le_of_ble_eq_true rfl) ?_
  refine kc_aload_n (i := 0) (x := a) d39_4 rfl (by simp) ?_
  refine kc_iconst (v := 2) d39_5 (by decide) ?_
  refine kc_put (q := (RX6, TX6, 7)) (j := 0) (i := 0) (ws2 := [(a, .inr (6, [.int 2, .int 0, .int 0, .int 0, .int 0, .int 0, .null]))]) d39_6 kl_6_9 cls_all rfl (Nat.le_of_ble_eq_true rfl) rfl (tyX6_ok 0 (Nat.le_of_ble_eq_true rfl)) rfl rfl rfl (Nat.le_of_ble_eq_true rfl) rfl ?_
  refine kc_aload_n (i := 0) (x := a) d39_9 rfl (by simp) ?_
  refine kc_sipush (v := 1000) d39_10 (by decide) ?_
  refine kc_put (q := (RX6, TX6, 7)) (j := 1) (i := 0) (ws2 := [(a, .inr (6, [.int 2, .int 1000, .int 0, .int 0, .int 0, .int 0, .null]))]) d39_13 kl_6_15 cls_all rfl (Nat.le_of_ble_eq_true rfl) rfl (tyX6_ok 1 (Nat.le_of_ble_eq_true rfl)) rfl rfl rfl (Nat.le_of_ble_eq_true rfl) rfl ?_
  refine kc_aload_n (i := 0) (x := a) d39_16 rfl (by simp) ?_
  refine kc_bipush (v := (-2)) d39_17 (by decide) ?_
  refine kc_put (q := (RX6, TX6, 7)) (j := 2) (i := 0) (ws2 := [(a, .inr (6, [.int 2, .int 1000, .int (-2), .int 0, .int 0, .int 0, .null]))]) d39_19 kl_6_18 cls_all rfl (Nat.le_of_ble_eq_true rfl) rfl (tyX6_ok 2 (Nat.le_of_ble_eq_true rfl)) rfl rfl rfl (Nat.le_of_ble_eq_true rfl) rfl ?_
  refine kc_aload_n (i := 0) (x := a) d39_22 rfl (by simp) ?_
  refine kc_sipush (v := 6000) d39_23 (by decide) ?_
  refine kc_put (q := (RX6, TX6, 7)) (j := 3) (i := 0) (ws2 := [(a, .inr (6, [.int 2, .int 1000, .int (-2), .int 6000, .int 0, .int 0, .null]))]) d39_26 kl_6_21 cls_all rfl (Nat.le_of_ble_eq_true rfl) rfl (tyX6_ok 3 (Nat.le_of_ble_eq_true rfl)) rfl rfl rfl (Nat.le_of_ble_eq_true rfl) rfl ?_
  refine kc_aload_n (i := 0) (x := a) d39_29 rfl (by simp) ?_
  refine kc_iconst (v := 3) d39_30 (by decide) ?_
  refine kc_put (q := (RX6, TX6, 7)) (j := 4) (i := 0) (ws2 := [(a, .inr (6, [.int 2, .int 1000, .int (-2), .int 6000, .int 3, .int 0, .null]))]) d39_31 kl_6_24 cls_all rfl (Nat.le_of_ble_eq_true rfl) rfl (tyX6_ok 4 (Nat.le_of_ble_eq_true rfl)) rfl rfl rfl (Nat.le_of_ble_eq_true rfl) rfl ?_
  refine kc_aload_n (i := 0) (x := a) d39_34 rfl (by simp) ?_
  refine kc_iconst (v := 0) d39_35 (by decide) ?_
  refine kc_put (q := (RX6, TX6, 7)) (j := 5) (i := 0) (ws2 := [(a, .inr (6, [.int 2, .int 1000, .int (-2), .int 6000, .int 3, .int 0, .null]))]) d39_36 kl_6_27 cls_all rfl (Nat.le_of_ble_eq_true rfl) rfl (tyX6_ok 5 (Nat.le_of_ble_eq_true rfl)) rfl rfl rfl (Nat.le_of_ble_eq_true rfl) rfl ?_
  refine kc_aload_n (i := 0) (x := a) d39_39 rfl (by simp) ?_
  refine kc_sipush (v := 432) d39_40 (by decide) ?_
  refine kc_newa (t := 2) (N := 432) (a0 := (432, .inl (fun _ => 0))) d39_43 rfl kw_boolean (fun _ => rfl) (fun _ => rfl) (by decide) (by decide) (Nat.le_of_ble_eq_true rfl) (Nat.le_of_ble_eq_true rfl) (Nat.le_of_ble_eq_true rfl) (fun q1 => ?_)
  refine kc_putF (q := (RX6, TX6, 7)) (j := 6) (i := 0) (ws2 := [(a, .inr (6, [.int 2, .int 1000, .int (-2), .int 6000, .int 3, .int 0, .ref q1])), (q1, .inl (tyc 2, 432, .inl (fun _ => 0)))]) d39_45 kl_6_30 cls_all rfl (Nat.le_of_ble_eq_true rfl) rfl (by decide +kernel) (tyX6_ok 6 (Nat.le_of_ble_eq_true rfl)) rfl rfl rfl (Nat.le_of_ble_eq_true rfl) rfl ?_
  exact kc_vret d39_48 rfl rfl (h q1)
set_option maxRecDepth 20000 in
theorem kn_44 {D : va_G} {tyc : Nat → ClassId} {a : Nat} {Q : va_W → Prop} (h : ∀ q1 q2 q3 q4 q5 : Nat, Q [(a, .inr (7, [.ref q1, .ref q2, .ref q3, .ref q4, .ref q5, .int 0])), (q1, .inl (tyc 0, 432, .inl (fun _ => 0))), (q2, .inl (tyc 0, 432, .inl (fun _ => 0))), (q3, .inl (tyc 0, 146, .inl (fun _ => 0))), (q4, .inl (tyc 0, 876, .inl (fun _ => 0))), (q5, .inl (tyc 0, 876, .inl (fun _ => 0)))]) : kc_P D tyc 44 5 2762 0 [(0, .ref a)] [] [(a, .inr (7, [.null, .null, .null, .null, .null, .int 0]))] 0 0 Q := by
  refine kc_aload_n (i := 0) (x := a) d44_0 rfl (by simp) ?_
  refine kc_obj d44_1 kl_7_3 (Nat.le_of_ble_eq_true rfl) (Nat.le_of_ble_eq_true rfl) ?_
  refine kc_aload_n (i := 0) (x := a) d44_4 rfl (by simp) ?_
  refine kc_sipush (v := 432) d44_5 (by decide) ?_
  refine kc_newa (t := 0) (N := 432) (a0 := (432, .inl (fun _ => 0))) d44_8 rfl kw_int (fun _ => rfl) (fun _ => rfl) (by decide) (by decide) (Nat.le_of_ble_eq_true rfl) (Nat.le_of_ble_eq_true rfl) (Nat.le_of_ble_eq_true rfl) (fun q1 => ?_)
  refine kc_putF (q := (RX7, TX7, 6)) (j := 0) (i := 0) (ws2 := [(a, .inr (7, [.ref q1, .null, .null, .null, .null, .int 0])), (q1, .inl (tyc 0, 432, .inl (fun _ => 0)))]) d44_10 kl_7_9 cls_all rfl (Nat.le_of_ble_eq_true rfl) rfl (by decide +kernel) (tyX7_ok 0 (Nat.le_of_ble_eq_true rfl)) rfl rfl rfl (Nat.le_of_ble_eq_true rfl) rfl ?_
  refine kc_aload_n (i := 0) (x := a) d44_13 rfl (by simp) ?_
  refine kc_sipush (v := 432) d44_14 (by decide) ?_
  refine kc_newa (t := 0) (N := 432) (a0 := (432, .inl (fun _ => 0))) d44_17 rfl kw_int (fun _ => rfl) (fun _ => rfl) (by decide) (by decide) (Nat.le_of_ble_eq_true rfl) (Nat.le_of_ble_eq_true rfl) (Nat.le_of_ble_eq_true rfl) (fun q2 => ?_)
  refine kc_putF (q := (RX7, TX7, 6)) (j := 1) (i := 0) (ws2 := [(a, .inr (7, [.ref q1, .ref q2, .null, .null, .null, .int 0])), (q1, .inl (tyc 0, 432, .inl (fun _ => 0))), (q2, .inl (tyc 0, 432, .inl (fun _ => 0)))]) d44_19 kl_7_15 cls_all rfl (Nat.le_of_ble_eq_true rfl) rfl (by decide +kernel) (tyX7_ok 1 (Nat.le_of_ble_eq_true rfl)) rfl rfl rfl (Nat.le_of_ble_eq_true rfl) rfl ?_
  refine kc_aload_n (i := 0) (x := a) d44_22 rfl (by simp) ?_
  refine kc_sipush (v := 146) d44_23 (by decide) ?_
  refine kc_newa (t := 0) (N := 146) (a0 := (146, .inl (fun _ => 0))) d44_26 rfl kw_int (fun _ => rfl) (fun _ => rfl) (by decide) (by decide) (Nat.le_of_ble_eq_true rfl) (Nat.le_of_ble_eq_true rfl) (Nat.le_of_ble_eq_true rfl) (fun q3 => ?_)
  refine kc_putF (q := (RX7, TX7, 6)) (j := 2) (i := 0) (ws2 := [(a, .inr (7, [.ref q1, .ref q2, .ref q3, .null, .null, .int 0])), (q1, .inl (tyc 0, 432, .inl (fun _ => 0))), (q2, .inl (tyc 0, 432, .inl (fun _ => 0))), (q3, .inl (tyc 0, 146, .inl (fun _ => 0)))]) d44_28 kl_7_18 cls_all rfl (Nat.le_of_ble_eq_true rfl) rfl (by decide +kernel) (tyX7_ok 2 (Nat.le_of_ble_eq_true rfl)) rfl rfl rfl (Nat.le_of_ble_eq_true rfl) rfl ?_
  refine kc_aload_n (i := 0) (x := a) d44_31 rfl (by simp) ?_
  refine kc_sipush (v := 876) d44_32 (by decide) ?_
  refine kc_newa (t := 0) (N := 876) (a0 := (876, .inl (fun _ => 0))) d44_35 rfl kw_int (fun _ => rfl) (fun _ => rfl) (by decide) (by decide) (Nat.le_of_ble_eq_true rfl) (Nat.le_of_ble_eq_true rfl) (Nat.le_of_ble_eq_true rfl) (fun q4 => ?_)
  refine kc_putF (q := (RX7, TX7, 6)) (j := 3) (i := 0) (ws2 := [(a, .inr (7, [.ref q1, .ref q2, .ref q3, .ref q4, .null, .int 0])), (q1, .inl (tyc 0, 432, .inl (fun _ => 0))), (q2, .inl (tyc 0, 432, .inl (fun _ => 0))), (q3, .inl (tyc 0, 146, .inl (fun _ => 0))), (q4, .inl (tyc 0, 876, .inl (fun _ => 0)))]) d44_37 kl_7_21 cls_all rfl (Nat.le_of_ble_eq_true rfl) rfl (by decide +kernel) (tyX7_ok 3 (Nat.le_of_ble_eq_true rfl)) rfl rfl rfl (Nat.le_of_ble_eq_true rfl) rfl ?_
  refine kc_aload_n (i := 0) (x := a) d44_40 rfl (by simp) ?_
  refine kc_sipush (v := 876) d44_41 (by decide) ?_
  refine kc_newa (t := 0) (N := 876) (a0 := (876, .inl (fun _ => 0))) d44_44 rfl kw_int (fun _ => rfl) (fun _ => rfl) (by decide) (by decide) (Nat.le_of_ble_eq_true rfl) (Nat.le_of_ble_eq_true rfl) (Nat.le_of_ble_eq_true rfl) (fun q5 => ?_)
  refine kc_putF (q := (RX7, TX7, 6)) (j := 4) (i := 0) (ws2 := [(a, .inr (7, [.ref q1, .ref q2, .ref q3, .ref q4, .ref q5, .int 0])), (q1, .inl (tyc 0, 432, .inl (fun _ => 0))), (q2, .inl (tyc 0, 432, .inl (fun _ => 0))), (q3, .inl (tyc 0, 146, .inl (fun _ => 0))), (q4, .inl (tyc 0, 876, .inl (fun _ => 0))), (q5, .inl (tyc 0, 876, .inl (fun _ => 0)))]) d44_46 kl_7_24 cls_all rfl (Nat.le_of_ble_eq_true rfl) rfl (by decide +kernel) (tyX7_ok 4 (Nat.le_of_ble_eq_true rfl)) rfl rfl rfl (Nat.le_of_ble_eq_true rfl) rfl ?_
  exact kc_vret d44_49 rfl rfl (h q1 q2 q3 q4 q5)
set_option maxRecDepth 20000 in
theorem kn_49 {D : va_G} {tyc : Nat → ClassId} {a : Nat} {Q : va_W → Prop} (h : ∀ q1 : Nat, Q [(a, .inr (8, [.ref q1, .int 0, .int 0, .int 0, .int 0])), (q1, .inl (tyc 3, 80, .inl (fun _ => 0)))]) : kc_P D tyc 49 1 80 0 [(0, .ref a)] [] [(a, .inr (8, [.null, .int 0, .int 0, .int 0, .int 0]))] 0 0 Q := by
  refine kc_aload_n (i := 0) (x := a) d49_0 rfl (by simp) ?_
  refine kc_obj d49_1 kl_8_3 (Nat.le_of_ble_eq_true rfl) (Nat.le_of_ble_eq_true rfl) ?_
  refine kc_aload_n (i := 0) (x := a) d49_4 rfl (by simp) ?_
  refine kc_bipush (v := 80) d49_5 (by decide) ?_
  refine kc_newa (t := 3) (N := 80) (a0 := (80, .inl (fun _ => 0))) d49_7 rfl kw_char (fun _ => rfl) (fun _ => rfl) (by decide) (by decide) (Nat.le_of_ble_eq_true rfl) (Nat.le_of_ble_eq_true rfl) (Nat.le_of_ble_eq_true rfl) (fun q1 => ?_)
  refine kc_putF (q := (RX8, TX8, 5)) (j := 0) (i := 0) (ws2 := [(a, .inr (8, [.ref q1, .int 0, .int 0, .int 0, .int 0])), (q1, .inl (tyc 3, 80, .inl (fun _ => 0)))]) d49_9 kl_8_9 cls_all rfl (Nat.le_of_ble_eq_true rfl) rfl (by decide +kernel) (tyX8_ok 0 (Nat.le_of_ble_eq_true rfl)) rfl rfl rfl (Nat.le_of_ble_eq_true rfl) rfl ?_
  exact kc_vret d49_12 rfl rfl (h q1)
set_option maxRecDepth 20000 in
theorem kn_55 {D : va_G} {tyc : Nat → ClassId} {a : Nat} {Q : va_W → Prop} (h : ∀ q1 q2 : Nat, Q [(a, .inr (9, [.ref q1, .ref q2, .int 0])), (q1, .inl (tyc 0, 146, .inl (fun _ => 0))), (q2, .inl (tyc 0, 146, .inl (fun _ => 0)))]) : kc_P D tyc 55 2 292 0 [(0, .ref a)] [] [(a, .inr (9, [.null, .null, .int 0]))] 0 0 Q := by
  refine kc_aload_n (i := 0) (x := a) d55_0 rfl (by simp) ?_
  refine kc_obj d55_1 kl_9_3 (Nat.le_of_ble_eq_true rfl) (Nat.le_of_ble_eq_true rfl) ?_
  refine kc_aload_n (i := 0) (x := a) d55_4 rfl (by simp) ?_
  refine kc_sipush (v := 146) d55_5 (by decide) ?_
  refine kc_newa (t := 0) (N := 146) (a0 := (146, .inl (fun _ => 0))) d55_8 rfl kw_int (fun _ => rfl) (fun _ => rfl) (by decide) (by decide) (Nat.le_of_ble_eq_true rfl) (Nat.le_of_ble_eq_true rfl) (Nat.le_of_ble_eq_true rfl) (fun q1 => ?_)
  refine kc_putF (q := (RX9, TX9, 3)) (j := 0) (i := 0) (ws2 := [(a, .inr (9, [.ref q1, .null, .int 0])), (q1, .inl (tyc 0, 146, .inl (fun _ => 0)))]) d55_10 kl_9_9 cls_all rfl (Nat.le_of_ble_eq_true rfl) rfl (by decide +kernel) (tyX9_ok 0 (Nat.le_of_ble_eq_true rfl)) rfl rfl rfl (Nat.le_of_ble_eq_true rfl) rfl ?_
  refine kc_aload_n (i := 0) (x := a) d55_13 rfl (by simp) ?_
  refine kc_sipush (v := 146) d55_14 (by decide) ?_
  refine kc_newa (t := 0) (N := 146) (a0 := (146, .inl (fun _ => 0))) d55_17 rfl kw_int (fun _ => rfl) (fun _ => rfl) (by decide) (by decide) (Nat.le_of_ble_eq_true rfl) (Nat.le_of_ble_eq_true rfl) (Nat.le_of_ble_eq_true rfl) (fun q2 => ?_)
  refine kc_putF (q := (RX9, TX9, 3)) (j := 1) (i := 0) (ws2 := [(a, .inr (9, [.ref q1, .ref q2, .int 0])), (q1, .inl (tyc 0, 146, .inl (fun _ => 0))), (q2, .inl (tyc 0, 146, .inl (fun _ => 0)))]) d55_19 kl_9_15 cls_all rfl (Nat.le_of_ble_eq_true rfl) rfl (by decide +kernel) (tyX9_ok 1 (Nat.le_of_ble_eq_true rfl)) rfl rfl rfl (Nat.le_of_ble_eq_true rfl) rfl ?_
  exact kc_vret d55_22 rfl rfl (h q1 q2)
set_option maxRecDepth 20000 in
theorem kn_3 {D : va_G} {tyc : Nat → ClassId} {a : Nat} {Q : va_W → Prop} (h : ∀ q1 q2 q3 q4 q5 q6 q7 q8 q9 q10 q11 q12 q13 : Nat, Q [(a, .inr (1, [.ref q1, .int 0])), (q1, .inl (tyc 4, 6, .inr (.inr (.inr (.inr (va_up (va_up (va_up (va_up (va_up (va_up (fun _ => none) (0 : Int32).toNatClampNeg (some q2)) (1 : Int32).toNatClampNeg (some q4)) (2 : Int32).toNatClampNeg (some q6)) (3 : Int32).toNatClampNeg (some q8)) (4 : Int32).toNatClampNeg (some q10)) (5 : Int32).toNatClampNeg (some q12))))))), (q2, .inr (6, [.int 2, .int 1000, .int (-2), .int 6000, .int 3, .int 0, .ref q3])), (q3, .inl (tyc 2, 432, .inl (fun _ => 0))), (q4, .inr (6, [.int 2, .int 1000, .int (-2), .int 6000, .int 3, .int 0, .ref q5])), (q5, .inl (tyc 2, 432, .inl (fun _ => 0))), (q6, .inr (6, [.int 2, .int 1000, .int (-2), .int 6000, .int 3, .int 0, .ref q7])), (q7, .inl (tyc 2, 432, .inl (fun _ => 0))), (q8, .inr (6, [.int 2, .int 1000, .int (-2), .int 6000, .int 3, .int 0, .ref q9])), (q9, .inl (tyc 2, 432, .inl (fun _ => 0))), (q10, .inr (6, [.int 2, .int 1000, .int (-2), .int 6000, .int 3, .int 0, .ref q11])), (q11, .inl (tyc 2, 432, .inl (fun _ => 0))), (q12, .inr (6, [.int 2, .int 1000, .int (-2), .int 6000, .int 3, .int 0, .ref q13])), (q13, .inl (tyc 2, 432, .inl (fun _ => 0)))]) : kc_P D tyc 3 13 2640 0 [(0, .ref a)] [] [(a, .inr (1, [.null, .int 0]))] 0 0 Q := by
  refine kc_aload_n (i := 0) (x := a) d3_0 rfl (by simp) ?_
  refine kc_obj d3_1 kl_1_3 (Nat.le_of_ble_eq_true rfl) (Nat.le_of_ble_eq_true rfl) ?_
  refine kc_aload_n (i := 0) (x := a) d3_4 rfl (by simp) ?_
  refine kc_bipush (v := 6) d3_5 (by decide) ?_
  refine kc_newq (t := 4) (N := 6) d3_7 kl_1_9 (fun _ => rfl) (by decide) (by decide) (Nat.le_of_ble_eq_true rfl) (Nat.le_of_ble_eq_true rfl) (Nat.le_of_ble_eq_true rfl) (fun q1 => ?_)
  refine kc_putF (q := (RX1, TX1, 2)) (j := 0) (i := 0) (ws2 := [(a, .inr (1, [.ref q1, .int 0])), (q1, .inl (tyc 4, 6, .inr (.inr (.inr (.inr (fun _ => none))))))]) d3_10 kl_1_11 cls_all rfl (Nat.le_of_ble_eq_true rfl) rfl (by decide +kernel) (tyX1_ok 0 (Nat.le_of_ble_eq_true rfl)) rfl rfl rfl (Nat.le_of_ble_eq_true rfl) rfl ?_
  refine kc_iconst (v := 0) d3_13 (by decide) ?_
  refine kc_istore_n (i := 1) (L2 := [(1, .int 0), (0, .ref a)]) d3_14 rfl (by decide +kernel) rfl ?_
  refine kc_iload_n (i := 1) (x := 0) d3_15 rfl (by simp) ?_
  refine kc_bipush (v := 6) d3_16 (by decide) ?_
  refine kc_icmp_ge (tgt := 40) d3_18 rfl (fun h9 => absurd h9 (by decide)) (fun _ => ?_)
  refine kc_aload_n (i := 0) (x := a) d3_21 rfl (by simp) ?_
  refine kc_get (q := (RX1, TX1, 2)) (j := 0) (i := 0) d3_22 kl_1_11 cls_all rfl (Nat.le_of_ble_eq_true rfl) rfl rfl ?_
  refine kc_iload_n (i := 1) (x := 0) d3_25 rfl (by simp) ?_
  refine kc_new (q := (RX6, TX6, 7)) (fs := [.int 0, .int 0, .int 0, .int 0, .int 0, .int 0, .null]) d3_26 kl_1_9 nw_6 rfl tyX6_ok (by decide +kernel) (Nat.le_of_ble_eq_true rfl) (Nat.le_of_ble_eq_true rfl) (fun q2 => ?_)
  refine kc_dup d3_29 ?_
  refine kc_init (k2 := 39) (mc2 := 1) (ms2 := 432) (wr := [(a, .inr (1, [.ref q1, .int 0])), (q1, .inl (tyc 4, 6, .inr (.inr (.inr (.inr (fun _ => none))))))]) d3_30 kl_1_17 ki_39 ok_39 rfl (Nat.le_of_ble_eq_true rfl) rfl (by decide +kernel) ⟨(Nat.le_of_ble_eq_true rfl), (Nat.le_of_ble_eq_true rfl)⟩ (Nat.le_of_ble_eq_true rfl) (Nat.le_of_ble_eq_true rfl) (Nat.le_of_ble_eq_true rfl) rfl ?_
  refine kn_39 (fun q3 => ?_)
  refine kc_aast (i := 1) (j := 2) (ws2 := [(a, .inr (1, [.ref q1, .int 0])), (q1, .inl (tyc 4, 6, .inr (.inr (.inr (.inr (va_up (fun _ => none) (0 : Int32).toNatClampNeg (some q2))))))), (q2, .inr (6, [.int 2, .int 1000, .int (-2), .int 6000, .int 3, .int 0, .ref q3])), (q3, .inl (tyc 2, 432, .inl (fun _ => 0)))]) (r := (RX6, TX6, 7)) d3_33 rfl rfl rfl rfl (by unfold vp_in; decide) rfl ?_
  refine kc_iinc (q := 0) (v := 1) (L2 := [(1, .int 1), (0, .ref a)]) d3_34 rfl (by decide) (by decide +kernel) rfl ?_
  refine kc_goto (tgt := 15) d3_37 rfl ?_
  refine kc_iload_n (i := 1) (x := 1) d3_15 rfl (by simp) ?_
  refine kc_bipush (v := 6) d3_16 (by decide) ?_
  refine kc_icmp_ge (tgt := 40) d3_18 rfl (fun h9 => absurd h9 (by decide)) (fun _ => ?_)
  refine kc_aload_n (i := 0) (x := a) d3_21 rfl (by simp) ?_
  refine kc_get (q := (RX1, TX1, 2)) (j := 0) (i := 0) d3_22 kl_1_11 cls_all rfl (Nat.le_of_ble_eq_true rfl) rfl rfl ?_
  refine kc_iload_n (i := 1) (x := 1) d3_25 rfl (by simp) ?_
  refine kc_new (q := (RX6, TX6, 7)) (fs := [.int 0, .int 0, .int 0, .int 0, .int 0, .int 0, .null]) d3_26 kl_1_9 nw_6 rfl tyX6_ok (by decide +kernel) (Nat.le_of_ble_eq_true rfl) (Nat.le_of_ble_eq_true rfl) (fun q4 => ?_)
  refine kc_dup d3_29 ?_
  refine kc_init (k2 := 39) (mc2 := 1) (ms2 := 432) (wr := [(a, .inr (1, [.ref q1, .int 0])), (q1, .inl (tyc 4, 6, .inr (.inr (.inr (.inr (va_up (fun _ => none) (0 : Int32).toNatClampNeg (some q2))))))), (q2, .inr (6, [.int 2, .int 1000, .int (-2), .int 6000, .int 3, .int 0, .ref q3])), (q3, .inl (tyc 2, 432, .inl (fun _ => 0)))]) d3_30 kl_1_17 ki_39 ok_39 rfl (Nat.le_of_ble_eq_true rfl) rfl (by decide +kernel) ⟨(Nat.le_of_ble_eq_true rfl), (Nat.le_of_ble_eq_true rfl)⟩ (Nat.le_of_ble_eq_true rfl) (Nat.le_of_ble_eq_true rfl) (Nat.le_of_ble_eq_true rfl) rfl ?_
  refine kn_39 (fun q5 => ?_)
  refine kc_aast (i := 1) (j := 4) (ws2 := [(a, .inr (1, [.ref q1, .int 0])), (q1, .inl (tyc 4, 6, .inr (.inr (.inr (.inr (va_up (va_up (fun _ => none) (0 : Int32).toNatClampNeg (some q2)) (1 : Int32).toNatClampNeg (some q4))))))), (q2, .inr (6, [.int 2, .int 1000, .int (-2), .int 6000, .int 3, .int 0, .ref q3])), (q3, .inl (tyc 2, 432, .inl (fun _ => 0))), (q4, .inr (6, [.int 2, .int 1000, .int (-2), .int 6000, .int 3, .int 0, .ref q5])), (q5, .inl (tyc 2, 432, .inl (fun _ => 0)))]) (r := (RX6, TX6, 7)) d3_33 rfl rfl rfl rfl (by unfold vp_in; decide) rfl ?_
  refine kc_iinc (q := 0) (v := 2) (L2 := [(1, .int 2), (0, .ref a)]) d3_34 rfl (by decide) (by decide +kernel) rfl ?_
  refine kc_goto (tgt := 15) d3_37 rfl ?_
  refine kc_iload_n (i := 1) (x := 2) d3_15 rfl (by simp) ?_
  refine kc_bipush (v := 6) d3_16 (by decide) ?_
  refine kc_icmp_ge (tgt := 40) d3_18 rfl (fun h9 => absurd h9 (by decide)) (fun _ => ?_)
  refine kc_aload_n (i := 0) (x := a) d3_21 rfl (by simp) ?_
  refine kc_get (q := (RX1, TX1, 2)) (j := 0) (i := 0) d3_22 kl_1_11 cls_all rfl (Nat.le_of_ble_eq_true rfl) rfl rfl ?_
  refine kc_iload_n (i := 1) (x := 2) d3_25 rfl (by simp) ?_
  refine kc_new (q := (RX6, TX6, 7)) (fs := [.int 0, .int 0, .int 0, .int 0, .int 0, .int 0, .null]) d3_26 kl_1_9 nw_6 rfl tyX6_ok (by decide +kernel) (Nat.le_of_ble_eq_true rfl) (Nat.le_of_ble_eq_true rfl) (fun q6 => ?_)
  refine kc_dup d3_29 ?_
  refine kc_init (k2 := 39) (mc2 := 1) (ms2 := 432) (wr := [(a, .inr (1, [.ref q1, .int 0])), (q1, .inl (tyc 4, 6, .inr (.inr (.inr (.inr (va_up (va_up (fun _ => none) (0 : Int32).toNatClampNeg (some q2)) (1 : Int32).toNatClampNeg (some q4))))))), (q2, .inr (6, [.int 2, .int 1000, .int (-2), .int 6000, .int 3, .int 0, .ref q3])), (q3, .inl (tyc 2, 432, .inl (fun _ => 0))), (q4, .inr (6, [.int 2, .int 1000, .int (-2), .int 6000, .int 3, .int 0, .ref q5])), (q5, .inl (tyc 2, 432, .inl (fun _ => 0)))]) d3_30 kl_1_17 ki_39 ok_39 rfl (Nat.le_of_ble_eq_true rfl) rfl (by decide +kernel) ⟨(Nat.le_of_ble_eq_true rfl), (Nat.le_of_ble_eq_true rfl)⟩ (Nat.le_of_ble_eq_true rfl) (Nat.le_of_ble_eq_true rfl) (Nat.le_of_ble_eq_true rfl) rfl ?_
  refine kn_39 (fun q7 => ?_)
  refine kc_aast (i := 1) (j := 6) (ws2 := [(a, .inr (1, [.ref q1, .int 0])), (q1, .inl (tyc 4, 6, .inr (.inr (.inr (.inr (va_up (va_up (va_up (fun _ => none) (0 : Int32).toNatClampNeg (some q2)) (1 : Int32).toNatClampNeg (some q4)) (2 : Int32).toNatClampNeg (some q6))))))), (q2, .inr (6, [.int 2, .int 1000, .int (-2), .int 6000, .int 3, .int 0, .ref q3])), (q3, .inl (tyc 2, 432, .inl (fun _ => 0))), (q4, .inr (6, [.int 2, .int 1000, .int (-2), .int 6000, .int 3, .int 0, .ref q5])), (q5, .inl (tyc 2, 432, .inl (fun _ => 0))), (q6, .inr (6, [.int 2, .int 1000, .int (-2), .int 6000, .int 3, .int 0, .ref q7])), (q7, .inl (tyc 2, 432, .inl (fun _ => 0)))]) (r := (RX6, TX6, 7)) d3_33 rfl rfl rfl rfl (by unfold vp_in; decide) rfl ?_
  refine kc_iinc (q := 0) (v := 3) (L2 := [(1, .int 3), (0, .ref a)]) d3_34 rfl (by decide) (by decide +kernel) rfl ?_
  refine kc_goto (tgt := 15) d3_37 rfl ?_
  refine kc_iload_n (i := 1) (x := 3) d3_15 rfl (by simp) ?_
  refine kc_bipush (v := 6) d3_16 (by decide) ?_
  refine kc_icmp_ge (tgt := 40) d3_18 rfl (fun h9 => absurd h9 (by decide)) (fun _ => ?_)
  refine kc_aload_n (i := 0) (x := a) d3_21 rfl (by simp) ?_
  refine kc_get (q := (RX1, TX1, 2)) (j := 0) (i := 0) d3_22 kl_1_11 cls_all rfl (Nat.le_of_ble_eq_true rfl) rfl rfl ?_
  refine kc_iload_n (i := 1) (x := 3) d3_25 rfl (by simp) ?_
  refine kc_new (q := (RX6, TX6, 7)) (fs := [.int 0, .int 0, .int 0, .int 0, .int 0, .int 0, .null]) d3_26 kl_1_9 nw_6 rfl tyX6_ok (by decide +kernel) (Nat.le_of_ble_eq_true rfl) (Nat.le_of_ble_eq_true rfl) (fun q8 => ?_)
  refine kc_dup d3_29 ?_
  refine kc_init (k2 := 39) (mc2 := 1) (ms2 := 432) (wr := [(a, .inr (1, [.ref q1, .int 0])), (q1, .inl (tyc 4, 6, .inr (.inr (.inr (.inr (va_up (va_up (va_up (fun _ => none) (0 : Int32).toNatClampNeg (some q2)) (1 : Int32).toNatClampNeg (some q4)) (2 : Int32).toNatClampNeg (some q6))))))), (q2, .inr (6, [.int 2, .int 1000, .int (-2), .int 6000, .int 3, .int 0, .ref q3])), (q3, .inl (tyc 2, 432, .inl (fun _ => 0))), (q4, .inr (6, [.int 2, .int 1000, .int (-2), .int 6000, .int 3, .int 0, .ref q5])), (q5, .inl (tyc 2, 432, .inl (fun _ => 0))), (q6, .inr (6, [.int 2, .int 1000, .int (-2), .int 6000, .int 3, .int 0, .ref q7])), (q7, .inl (tyc 2, 432, .inl (fun _ => 0)))]) d3_30 kl_1_17 ki_39 ok_39 rfl (Nat.le_of_ble_eq_true rfl) rfl (by decide +kernel) ⟨(Nat.le_of_ble_eq_true rfl), (Nat.le_of_ble_eq_true rfl)⟩ (Nat.le_of_ble_eq_true rfl) (Nat.le_of_ble_eq_true rfl) (Nat.le_of_ble_eq_true rfl) rfl ?_
  refine kn_39 (fun q9 => ?_)
  refine kc_aast (i := 1) (j := 8) (ws2 := [(a, .inr (1, [.ref q1, .int 0])), (q1, .inl (tyc 4, 6, .inr (.inr (.inr (.inr (va_up (va_up (va_up (va_up (fun _ => none) (0 : Int32).toNatClampNeg (some q2)) (1 : Int32).toNatClampNeg (some q4)) (2 : Int32).toNatClampNeg (some q6)) (3 : Int32).toNatClampNeg (some q8))))))), (q2, .inr (6, [.int 2, .int 1000, .int (-2), .int 6000, .int 3, .int 0, .ref q3])), (q3, .inl (tyc 2, 432, .inl (fun _ => 0))), (q4, .inr (6, [.int 2, .int 1000, .int (-2), .int 6000, .int 3, .int 0, .ref q5])), (q5, .inl (tyc 2, 432, .inl (fun _ => 0))), (q6, .inr (6, [.int 2, .int 1000, .int (-2), .int 6000, .int 3, .int 0, .ref q7])), (q7, .inl (tyc 2, 432, .inl (fun _ => 0))), (q8, .inr (6, [.int 2, .int 1000, .int (-2), .int 6000, .int 3, .int 0, .ref q9])), (q9, .inl (tyc 2, 432, .inl (fun _ => 0)))]) (r := (RX6, TX6, 7)) d3_33 rfl rfl rfl rfl (by unfold vp_in; decide) rfl ?_
  refine kc_iinc (q := 0) (v := 4) (L2 := [(1, .int 4), (0, .ref a)]) d3_34 rfl (by decide) (by decide +kernel) rfl ?_
  refine kc_goto (tgt := 15) d3_37 rfl ?_
  refine kc_iload_n (i := 1) (x := 4) d3_15 rfl (by simp) ?_
  refine kc_bipush (v := 6) d3_16 (by decide) ?_
  refine kc_icmp_ge (tgt := 40) d3_18 rfl (fun h9 => absurd h9 (by decide)) (fun _ => ?_)
  refine kc_aload_n (i := 0) (x := a) d3_21 rfl (by simp) ?_
  refine kc_get (q := (RX1, TX1, 2)) (j := 0) (i := 0) d3_22 kl_1_11 cls_all rfl (Nat.le_of_ble_eq_true rfl) rfl rfl ?_
  refine kc_iload_n (i := 1) (x := 4) d3_25 rfl (by simp) ?_
  refine kc_new (q := (RX6, TX6, 7)) (fs := [.int 0, .int 0, .int 0, .int 0, .int 0, .int 0, .null]) d3_26 kl_1_9 nw_6 rfl tyX6_ok (by decide +kernel) (Nat.le_of_ble_eq_true rfl) (Nat.le_of_ble_eq_true rfl) (fun q10 => ?_)
  refine kc_dup d3_29 ?_
  refine kc_init (k2 := 39) (mc2 := 1) (ms2 := 432) (wr := [(a, .inr (1, [.ref q1, .int 0])), (q1, .inl (tyc 4, 6, .inr (.inr (.inr (.inr (va_up (va_up (va_up (va_up (fun _ => none) (0 : Int32).toNatClampNeg (some q2)) (1 : Int32).toNatClampNeg (some q4)) (2 : Int32).toNatClampNeg (some q6)) (3 : Int32).toNatClampNeg (some q8))))))), (q2, .inr (6, [.int 2, .int 1000, .int (-2), .int 6000, .int 3, .int 0, .ref q3])), (q3, .inl (tyc 2, 432, .inl (fun _ => 0))), (q4, .inr (6, [.int 2, .int 1000, .int (-2), .int 6000, .int 3, .int 0, .ref q5])), (q5, .inl (tyc 2, 432, .inl (fun _ => 0))), (q6, .inr (6, [.int 2, .int 1000, .int (-2), .int 6000, .int 3, .int 0, .ref q7])), (q7, .inl (tyc 2, 432, .inl (fun _ => 0))), (q8, .inr (6, [.int 2, .int 1000, .int (-2), .int 6000, .int 3, .int 0, .ref q9])), (q9, .inl (tyc 2, 432, .inl (fun _ => 0)))]) d3_30 kl_1_17 ki_39 ok_39 rfl (Nat.le_of_ble_eq_true rfl) rfl (by decide +kernel) ⟨(Nat.le_of_ble_eq_true rfl), (Nat.le_of_ble_eq_true rfl)⟩ (Nat.le_of_ble_eq_true rfl) (Nat.le_of_ble_eq_true rfl) (Nat.le_of_ble_eq_true rfl) rfl ?_
  refine kn_39 (fun q11 => ?_)
  refine kc_aast (i := 1) (j := 10) (ws2 := [(a, .inr (1, [.ref q1, .int 0])), (q1, .inl (tyc 4, 6, .inr (.inr (.inr (.inr (va_up (va_up (va_up (va_up (va_up (fun _ => none) (0 : Int32).toNatClampNeg (some q2)) (1 : Int32).toNatClampNeg (some q4)) (2 : Int32).toNatClampNeg (some q6)) (3 : Int32).toNatClampNeg (some q8)) (4 : Int32).toNatClampNeg (some q10))))))), (q2, .inr (6, [.int 2, .int 1000, .int (-2), .int 6000, .int 3, .int 0, .ref q3])), (q3, .inl (tyc 2, 432, .inl (fun _ => 0))), (q4, .inr (6, [.int 2, .int 1000, .int (-2), .int 6000, .int 3, .int 0, .ref q5])), (q5, .inl (tyc 2, 432, .inl (fun _ => 0))), (q6, .inr (6, [.int 2, .int 1000, .int (-2), .int 6000, .int 3, .int 0, .ref q7])), (q7, .inl (tyc 2, 432, .inl (fun _ => 0))), (q8, .inr (6, [.int 2, .int 1000, .int (-2), .int 6000, .int 3, .int 0, .ref q9])), (q9, .inl (tyc 2, 432, .inl (fun _ => 0))), (q10, .inr (6, [.int 2, .int 1000, .int (-2), .int 6000, .int 3, .int 0, .ref q11])), (q11, .inl (tyc 2, 432, .inl (fun _ => 0)))]) (r := (RX6, TX6, 7)) d3_33 rfl rfl rfl rfl (by unfold vp_in; decide) rfl ?_
  refine kc_iinc (q := 0) (v := 5) (L2 := [(1, .int 5), (0, .ref a)]) d3_34 rfl (by decide) (by decide +kernel) rfl ?_
  refine kc_goto (tgt := 15) d3_37 rfl ?_
  refine kc_iload_n (i := 1) (x := 5) d3_15 rfl (by simp) ?_
  refine kc_bipush (v := 6) d3_16 (by decide) ?_
  refine kc_icmp_ge (tgt := 40) d3_18 rfl (fun h9 => absurd h9 (by decide)) (fun _ => ?_)
  refine kc_aload_n (i := 0) (x := a) d3_21 rfl (by simp) ?_
  refine kc_get (q := (RX1, TX1, 2)) (j := 0) (i := 0) d3_22 kl_1_11 cls_all rfl (Nat.le_of_ble_eq_true rfl) rfl rfl ?_
  refine kc_iload_n (i := 1) (x := 5) d3_25 rfl (by simp) ?_
  refine kc_new (q := (RX6, TX6, 7)) (fs := [.int 0, .int 0, .int 0, .int 0, .int 0, .int 0, .null]) d3_26 kl_1_9 nw_6 rfl tyX6_ok (by decide +kernel) (Nat.le_of_ble_eq_true rfl) (Nat.le_of_ble_eq_true rfl) (fun q12 => ?_)
  refine kc_dup d3_29 ?_
  refine kc_init (k2 := 39) (mc2 := 1) (ms2 := 432) (wr := [(a, .inr (1, [.ref q1, .int 0])), (q1, .inl (tyc 4, 6, .inr (.inr (.inr (.inr (va_up (va_up (va_up (va_up (va_up (fun _ => none) (0 : Int32).toNatClampNeg (some q2)) (1 : Int32).toNatClampNeg (some q4)) (2 : Int32).toNatClampNeg (some q6)) (3 : Int32).toNatClampNeg (some q8)) (4 : Int32).toNatClampNeg (some q10))))))), (q2, .inr (6, [.int 2, .int 1000, .int (-2), .int 6000, .int 3, .int 0, .ref q3])), (q3, .inl (tyc 2, 432, .inl (fun _ => 0))), (q4, .inr (6, [.int 2, .int 1000, .int (-2), .int 6000, .int 3, .int 0, .ref q5])), (q5, .inl (tyc 2, 432, .inl (fun _ => 0))), (q6, .inr (6, [.int 2, .int 1000, .int (-2), .int 6000, .int 3, .int 0, .ref q7])), (q7, .inl (tyc 2, 432, .inl (fun _ => 0))), (q8, .inr (6, [.int 2, .int 1000, .int (-2), .int 6000, .int 3, .int 0, .ref q9])), (q9, .inl (tyc 2, 432, .inl (fun _ => 0))), (q10, .inr (6, [.int 2, .int 1000, .int (-2), .int 6000, .int 3, .int 0, .ref q11])), (q11, .inl (tyc 2, 432, .inl (fun _ => 0)))]) d3_30 kl_1_17 ki_39 ok_39 rfl (Nat.le_of_ble_eq_true rfl) rfl (by decide +kernel) ⟨(Nat.le_of_ble_eq_true rfl), (Nat.le_of_ble_eq_true rfl)⟩ (Nat.le_of_ble_eq_true rfl) (Nat.le_of_ble_eq_true rfl) (Nat.le_of_ble_eq_true rfl) rfl ?_
  refine kn_39 (fun q13 => ?_)
  refine kc_aast (i := 1) (j := 12) (ws2 := [(a, .inr (1, [.ref q1, .int 0])), (q1, .inl (tyc 4, 6, .inr (.inr (.inr (.inr (va_up (va_up (va_up (va_up (va_up (va_up (fun _ => none) (0 : Int32).toNatClampNeg (some q2)) (1 : Int32).toNatClampNeg (some q4)) (2 : Int32).toNatClampNeg (some q6)) (3 : Int32).toNatClampNeg (some q8)) (4 : Int32).toNatClampNeg (some q10)) (5 : Int32).toNatClampNeg (some q12))))))), (q2, .inr (6, [.int 2, .int 1000, .int (-2), .int 6000, .int 3, .int 0, .ref q3])), (q3, .inl (tyc 2, 432, .inl (fun _ => 0))), (q4, .inr (6, [.int 2, .int 1000, .int (-2), .int 6000, .int 3, .int 0, .ref q5])), (q5, .inl (tyc 2, 432, .inl (fun _ => 0))), (q6, .inr (6, [.int 2, .int 1000, .int (-2), .int 6000, .int 3, .int 0, .ref q7])), (q7, .inl (tyc 2, 432, .inl (fun _ => 0))), (q8, .inr (6, [.int 2, .int 1000, .int (-2), .int 6000, .int 3, .int 0, .ref q9])), (q9, .inl (tyc 2, 432, .inl (fun _ => 0))), (q10, .inr (6, [.int 2, .int 1000, .int (-2), .int 6000, .int 3, .int 0, .ref q11])), (q11, .inl (tyc 2, 432, .inl (fun _ => 0))), (q12, .inr (6, [.int 2, .int 1000, .int (-2), .int 6000, .int 3, .int 0, .ref q13])), (q13, .inl (tyc 2, 432, .inl (fun _ => 0)))]) (r := (RX6, TX6, 7)) d3_33 rfl rfl rfl rfl (by unfold vp_in; decide) rfl ?_
  refine kc_iinc (q := 0) (v := 6) (L2 := [(1, .int 6), (0, .ref a)]) d3_34 rfl (by decide) (by decide +kernel) rfl ?_
  refine kc_goto (tgt := 15) d3_37 rfl ?_
  refine kc_iload_n (i := 1) (x := 6) d3_15 rfl (by simp) ?_
  refine kc_bipush (v := 6) d3_16 (by decide) ?_
  refine kc_icmp_ge (tgt := 40) d3_18 rfl (fun _ => ?_) (fun h9 => absurd (by decide) h9)
  exact kc_vret d3_40 rfl rfl (h q1 q2 q3 q4 q5 q6 q7 q8 q9 q10 q11 q12 q13)
