theorem sp_84 {A : Mem} {Q : Int32 → Mem → Prop} {v a b : Int32} (h : Q (b2i (decide (a ≤ v) && decide (v ≤ b))) A) : pm_P 84 0 [(0, .int v), (1, .int a), (2, .int b)] [] A Q := by
  refine pm_iload_n (i := 0) d84_0 rfl rfl ?_
  refine pm_iload_n (i := 1) d84_1 rfl rfl ?_
  first | refine pm_icmp_ltN (tgt := 14) d84_2 rfl (by omega) (by omega) (fun c_2 => ?_) (fun c_2 => ?_) | refine pm_icmp_lt (tgt := 14) d84_2 rfl (fun c_2 => ?_) (fun c_2 => ?_)
  · refine pm_iconst (v := nI 0) d84_14 (by decide) ?_
    refine pm_iret d84_15 rfl (by first | rfl | exact nar_b _) ?_
    sorry
  · refine pm_iload_n (i := 0) d84_5 rfl rfl ?_
    refine pm_iload_n (i := 2) d84_6 rfl rfl ?_
    first | refine pm_icmp_gtN (tgt := 14) d84_7 rfl (by omega) (by omega) (fun c_7 => ?_) (fun c_7 => ?_) | refine pm_icmp_gt (tgt := 14) d84_7 rfl (fun c_7 => ?_) (fun c_7 => ?_)
    · refine pm_iconst (v := nI 0) d84_14 (by decide) ?_
      refine pm_iret d84_15 rfl (by first | rfl | exact nar_b _) ?_
      sorry
    · refine pm_iconst (v := nI 1) d84_10 (by decide) ?_
      refine pm_goto (tgt := 15) d84_11 rfl ?_
      refine pm_iret d84_15 rfl (by first | rfl | exact nar_b _) ?_
      sorry
theorem sp_89 {A : Mem} {Q : Int32 → Mem → Prop} {a : Nat} (ha : a < 146) (h : Q (b2i (decide (A 21 2 ≤ A 4 a))) A) : pm_P 89 0 [(0, .ref 0), (1, .int (nI a))] [] A Q := by
  refine pm_aload_n (i := 0) d89_0 rfl rfl ?_
  refine pm_getR d89_1 lf_10_12 rfl rfl ?_
  refine pm_getR d89_4 lf_10_166 rfl rfl ?_
  refine pm_iload_n (i := 1) d89_7 rfl rfl ?_
  refine pm_ialdN d89_8 rfl (by decide) (by omega) ?_
  refine pm_aload_n (i := 0) d89_9 rfl rfl ?_
  refine pm_getR d89_10 lf_10_40 rfl rfl ?_
  refine pm_getI d89_13 lf_10_98 rfl rfl ?_
  first | refine pm_icmp_ltN (tgt := 23) d89_16 rfl (by omega) (by omega) (fun c_16 => ?_) (fun c_16 => ?_) | refine pm_icmp_lt (tgt := 23) d89_16 rfl (fun c_16 => ?_) (fun c_16 => ?_)
  · refine pm_iconst (v := nI 0) d89_23 (by decide) ?_
    refine pm_iret d89_24 rfl (by first | rfl | exact nar_b _) ?_
    sorry
  · refine pm_iconst (v := nI 1) d89_19 (by decide) ?_
    refine pm_goto (tgt := 24) d89_20 rfl ?_
    refine pm_iret d89_24 rfl (by first | rfl | exact nar_b _) ?_
    sorry
