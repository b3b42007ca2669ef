theorem kw_int : Cond.arrayClass FieldType.int ∈ pm_W := pm_in 81 (by decide +kernel) (by decide +kernel)
theorem kw_boolean : Cond.arrayClass FieldType.boolean ∈ pm_W := pm_in 209 (by decide +kernel) (by decide +kernel)
theorem kw_char : Cond.arrayClass FieldType.char ∈ pm_W := pm_in 294 (by decide +kernel) (by decide +kernel)
theorem nw_0 : kc_nw 0 (RX0, TX0, 3) := ⟨rfl, pm_in 156 (by decide +kernel) (by decide +kernel), pm_in 35 (by decide +kernel) (by decide +kernel), (cls_all 0 (RX0, TX0, 3) rfl).1⟩
theorem nw_1 : kc_nw 1 (RX1, TX1, 2) := ⟨rfl, pm_in 211 (by decide +kernel) (by decide +kernel), pm_in 37 (by decide +kernel) (by decide +kernel), (cls_all 1 (RX1, TX1, 2) rfl).1⟩
theorem nw_2 : kc_nw 2 (RX2, TX2, 5) := ⟨rfl, pm_in 55 (by decide +kernel) (by decide +kernel), pm_in 32 (by decide +kernel) (by decide +kernel), (cls_all 2 (RX2, TX2, 5) rfl).1⟩
theorem nw_3 : kc_nw 3 (RX3, TX3, 8) := ⟨rfl, pm_in 119 (by decide +kernel) (by decide +kernel), pm_in 34 (by decide +kernel) (by decide +kernel), (cls_all 3 (RX3, TX3, 8) rfl).1⟩
theorem nw_4 : kc_nw 4 (RX4, TX4, 4) := ⟨rfl, pm_in 296 (by decide +kernel) (by decide +kernel), pm_in 41 (by decide +kernel) (by decide +kernel), (cls_all 4 (RX4, TX4, 4) rfl).1⟩
theorem nw_5 : kc_nw 5 (RX5, TX5, 8) := ⟨rfl, pm_in 243 (by decide +kernel) (by decide +kernel), pm_in 39 (by decide +kernel) (by decide +kernel), (cls_all 5 (RX5, TX5, 8) rfl).1⟩
theorem nw_6 : kc_nw 6 (RX6, TX6, 7) := ⟨rfl, pm_in 175 (by decide +kernel) (by decide +kernel), pm_in 36 (by decide +kernel) (by decide +kernel), (cls_all 6 (RX6, TX6, 7) rfl).1⟩
theorem nw_7 : kc_nw 7 (RX7, TX7, 6) := ⟨rfl, pm_in 83 (by decide +kernel) (by decide +kernel), pm_in 33 (by decide +kernel) (by decide +kernel), (cls_all 7 (RX7, TX7, 6) rfl).1⟩
theorem nw_8 : kc_nw 8 (RX8, TX8, 5) := ⟨rfl, pm_in 276 (by decide +kernel) (by decide +kernel), pm_in 40 (by decide +kernel) (by decide +kernel), (cls_all 8 (RX8, TX8, 5) rfl).1⟩
theorem nw_9 : kc_nw 9 (RX9, TX9, 3) := ⟨rfl, pm_in 228 (by decide +kernel) (by decide +kernel), pm_in 38 (by decide +kernel) (by decide +kernel), (cls_all 9 (RX9, TX9, 3) rfl).1⟩
theorem nw_10 : kc_nw 10 (RX10, TX10, 11) := ⟨rfl, pm_in 47 (by decide +kernel) (by decide +kernel), pm_in 31 (by decide +kernel) (by decide +kernel), (cls_all 10 (RX10, TX10, 11) rfl).1⟩
theorem ok_0 : pm_ok 0 := ⟨pm_in 159 (by decide +kernel) (by decide +kernel), (by decide +kernel), (by decide +kernel), pm_in 35 (by decide +kernel) (by decide +kernel), (by decide +kernel), (by decide +kernel)⟩
theorem ki_0 : Cond.instanceMethod (pm_y 0) ∈ pm_W := pm_in 158 (by decide +kernel) (by decide +kernel)
theorem d0_0 : decode (pm_c 0) 0 = .ok (.aload_n 0, 1) := by decide +kernel
theorem d0_1 : decode (pm_c 0) 1 = .ok (.invokespecial 3, 3) := by decide +kernel
theorem kl_0_3 : Cond.methodLink (pm_own 0) 3 objectInit ∈ pm_W := pm_in 160 (by decide +kernel) (by decide +kernel)
theorem d0_4 : decode (pm_c 0) 4 = .ok (.aload_n 0, 1) := by decide +kernel
theorem d0_5 : decode (pm_c 0) 5 = .ok (.sipush 864, 3) := by decide +kernel
theorem d0_8 : decode (pm_c 0) 8 = .ok (.newarray .int, 2) := by decide +kernel
theorem d0_10 : decode (pm_c 0) 10 = .ok (.putfield 9, 3) := by decide +kernel
theorem kl_0_9 : Cond.fieldLink (pm_own 0) 9 (TX0 0).1 (TX0 0).2.1 (TX0 0).2.2.1 ∈ pm_W := pm_in 161 (by decide +kernel) (by decide +kernel)
theorem d0_13 : decode (pm_c 0) 13 = .ok (.aload_n 0, 1) := by decide +kernel
theorem d0_14 : decode (pm_c 0) 14 = .ok (.sipush 864, 3) := by decide +kernel
theorem d0_17 : decode (pm_c 0) 17 = .ok (.newarray .int, 2) := by decide +kernel
theorem d0_19 : decode (pm_c 0) 19 = .ok (.putfield 15, 3) := by decide +kernel
theorem kl_0_15 : Cond.fieldLink (pm_own 0) 15 (TX0 1).1 (TX0 1).2.1 (TX0 1).2.2.1 ∈ pm_W := pm_in 163 (by decide +kernel) (by decide +kernel)
theorem d0_22 : decode (pm_c 0) 22 = .ok (.return_, 1) := by decide +kernel
theorem ok_7 : pm_ok 7 := ⟨pm_in 58 (by decide +kernel) (by decide +kernel), (by decide +kernel), (by decide +kernel), pm_in 32 (by decide +kernel) (by decide +kernel), (by decide +kernel), (by decide +kernel)⟩
theorem ki_7 : Cond.instanceMethod (pm_y 7) ∈ pm_W := pm_in 57 (by decide +kernel) (by decide +kernel)
theorem d7_0 : decode (pm_c 7) 0 = .ok (.aload_n 0, 1) := by decide +kernel
theorem d7_1 : decode (pm_c 7) 1 = .ok (.invokespecial 3, 3) := by decide +kernel
theorem kl_2_3 : Cond.methodLink (pm_own 2) 3 objectInit ∈ pm_W := pm_in 59 (by decide +kernel) (by decide +kernel)
theorem d7_4 : decode (pm_c 7) 4 = .ok (.aload_n 0, 1) := by decide +kernel
theorem d7_5 : decode (pm_c 7) 5 = .ok (.sipush 146, 3) := by decide +kernel
theorem d7_8 : decode (pm_c 7) 8 = .ok (.newarray .int, 2) := by decide +kernel
theorem d7_10 : decode (pm_c 7) 10 = .ok (.putfield 9, 3) := by decide +kernel
theorem kl_2_9 : Cond.fieldLink (pm_own 2) 9 (TX2 0).1 (TX2 0).2.1 (TX2 0).2.2.1 ∈ pm_W := pm_in 60 (by decide +kernel) (by decide +kernel)
theorem d7_13 : decode (pm_c 7) 13 = .ok (.aload_n 0, 1) := by decide +kernel
theorem d7_14 : decode (pm_c 7) 14 = .ok (.sipush 146, 3) := by decide +kernel
theorem d7_17 : decode (pm_c 7) 17 = .ok (.newarray .int, 2) := by decide +kernel
theorem d7_19 : decode (pm_c 7) 19 = .ok (.putfield 15, 3) := by decide +kernel
theorem kl_2_15 : Cond.fieldLink (pm_own 2) 15 (TX2 1).1 (TX2 1).2.1 (TX2 1).2.2.1 ∈ pm_W := pm_in 61 (by decide +kernel) (by decide +kernel)
theorem d7_22 : decode (pm_c 7) 22 = .ok (.aload_n 0, 1) := by decide +kernel
theorem d7_23 : decode (pm_c 7) 23 = .ok (.sipush 146, 3) := by decide +kernel
theorem d7_26 : decode (pm_c 7) 26 = .ok (.newarray .int, 2) := by decide +kernel
theorem d7_28 : decode (pm_c 7) 28 = .ok (.putfield 18, 3) := by decide +kernel
theorem kl_2_18 : Cond.fieldLink (pm_own 2) 18 (TX2 2).1 (TX2 2).2.1 (TX2 2).2.2.1 ∈ pm_W := pm_in 62 (by decide +kernel) (by decide +kernel)
theorem d7_31 : decode (pm_c 7) 31 = .ok (.return_, 1) := by decide +kernel
theorem ok_17 : pm_ok 17 := ⟨pm_in 122 (by decide +kernel) (by decide +kernel), (by decide +kernel), (by decide +kernel), pm_in 34 (by decide +kernel) (by decide +kernel), (by decide +kernel), (by decide +kernel)⟩
theorem ki_17 : Cond.instanceMethod (pm_y 17) ∈ pm_W := pm_in 121 (by decide +kernel) (by decide +kernel)
theorem d17_0 : decode (pm_c 17) 0 = .ok (.aload_n 0, 1) := by decide +kernel
theorem d17_1 : decode (pm_c 17) 1 = .ok (.invokespecial 3, 3) := by decide +kernel
theorem kl_3_3 : Cond.methodLink (pm_own 3) 3 objectInit ∈ pm_W := pm_in 123 (by decide +kernel) (by decide +kernel)
theorem d17_4 : decode (pm_c 17) 4 = .ok (.aload_n 0, 1) := by decide +kernel
theorem d17_5 : decode (pm_c 17) 5 = .ok (.sipush 432, 3) := by decide +kernel
theorem d17_8 : decode (pm_c 17) 8 = .ok (.newarray .int, 2) := by decide +kernel
theorem d17_10 : decode (pm_c 17) 10 = .ok (.putfield 9, 3) := by decide +kernel
theorem kl_3_9 : Cond.fieldLink (pm_own 3) 9 (TX3 0).1 (TX3 0).2.1 (TX3 0).2.2.1 ∈ pm_W := pm_in 124 (by decide +kernel) (by decide +kernel)
theorem d17_13 : decode (pm_c 17) 13 = .ok (.aload_n 0, 1) := by decide +kernel
theorem d17_14 : decode (pm_c 17) 14 = .ok (.sipush 432, 3) := by decide +kernel
theorem d17_17 : decode (pm_c 17) 17 = .ok (.newarray .int, 2) := by decide +kernel
theorem d17_19 : decode (pm_c 17) 19 = .ok (.putfield 15, 3) := by decide +kernel
theorem kl_3_15 : Cond.fieldLink (pm_own 3) 15 (TX3 1).1 (TX3 1).2.1 (TX3 1).2.2.1 ∈ pm_W := pm_in 126 (by decide +kernel) (by decide +kernel)
theorem d17_22 : decode (pm_c 17) 22 = .ok (.aload_n 0, 1) := by decide +kernel
theorem d17_23 : decode (pm_c 17) 23 = .ok (.sipush 432, 3) := by decide +kernel
theorem d17_26 : decode (pm_c 17) 26 = .ok (.newarray .int, 2) := by decide +kernel
theorem d17_28 : decode (pm_c 17) 28 = .ok (.putfield 18, 3) := by decide +kernel
theorem kl_3_18 : Cond.fieldLink (pm_own 3) 18 (TX3 2).1 (TX3 2).2.1 (TX3 2).2.2.1 ∈ pm_W := pm_in 128 (by decide +kernel) (by decide +kernel)
theorem d17_31 : decode (pm_c 17) 31 = .ok (.aload_n 0, 1) := by decide +kernel
theorem d17_32 : decode (pm_c 17) 32 = .ok (.sipush 432, 3) := by decide +kernel
theorem d17_35 : decode (pm_c 17) 35 = .ok (.newarray .int, 2) := by decide +kernel
theorem d17_37 : decode (pm_c 17) 37 = .ok (.putfield 21, 3) := by decide +kernel
theorem kl_3_21 : Cond.fieldLink (pm_own 3) 21 (TX3 3).1 (TX3 3).2.1 (TX3 3).2.2.1 ∈ pm_W := pm_in 130 (by decide +kernel) (by decide +kernel)
theorem d17_40 : decode (pm_c 17) 40 = .ok (.aload_n 0, 1) := by decide +kernel
theorem d17_41 : decode (pm_c 17) 41 = .ok (.bipush 16, 2) := by decide +kernel
theorem d17_43 : decode (pm_c 17) 43 = .ok (.newarray .int, 2) := by decide +kernel
theorem d17_45 : decode (pm_c 17) 45 = .ok (.putfield 24, 3) := by decide +kernel
theorem kl_3_24 : Cond.fieldLink (pm_own 3) 24 (TX3 4).1 (TX3 4).2.1 (TX3 4).2.2.1 ∈ pm_W := pm_in 132 (by decide +kernel) (by decide +kernel)
theorem d17_48 : decode (pm_c 17) 48 = .ok (.aload_n 0, 1) := by decide +kernel
theorem d17_49 : decode (pm_c 17) 49 = .ok (.bipush 16, 2) := by decide +kernel
theorem d17_51 : decode (pm_c 17) 51 = .ok (.newarray .int, 2) := by decide +kernel
theorem d17_53 : decode (pm_c 17) 53 = .ok (.putfield 27, 3) := by decide +kernel
theorem kl_3_27 : Cond.fieldLink (pm_own 3) 27 (TX3 5).1 (TX3 5).2.1 (TX3 5).2.2.1 ∈ pm_W := pm_in 133 (by decide +kernel) (by decide +kernel)
theorem d17_56 : decode (pm_c 17) 56 = .ok (.return_, 1) := by decide +kernel
theorem ok_26 : pm_ok 26 := ⟨pm_in 299 (by decide +kernel) (by decide +kernel), (by decide +kernel), (by decide +kernel), pm_in 41 (by decide +kernel) (by decide +kernel), (by decide +kernel), (by decide +kernel)⟩
theorem ki_26 : Cond.instanceMethod (pm_y 26) ∈ pm_W := pm_in 298 (by decide +kernel) (by decide +kernel)
theorem d26_0 : decode (pm_c 26) 0 = .ok (.aload_n 0, 1) := by decide +kernel
theorem d26_1 : decode (pm_c 26) 1 = .ok (.invokespecial 3, 3) := by decide +kernel
theorem kl_4_3 : Cond.methodLink (pm_own 4) 3 objectInit ∈ pm_W := pm_in 300 (by decide +kernel) (by decide +kernel)
theorem d26_4 : decode (pm_c 26) 4 = .ok (.aload_n 0, 1) := by decide +kernel
theorem d26_5 : decode (pm_c 26) 5 = .ok (.bipush 20, 2) := by decide +kernel
theorem d26_7 : decode (pm_c 26) 7 = .ok (.newarray .int, 2) := by decide +kernel
theorem d26_9 : decode (pm_c 26) 9 = .ok (.putfield 9, 3) := by decide +kernel
theorem kl_4_9 : Cond.fieldLink (pm_own 4) 9 (TX4 0).1 (TX4 0).2.1 (TX4 0).2.2.1 ∈ pm_W := pm_in 301 (by decide +kernel) (by decide +kernel)
theorem d26_12 : decode (pm_c 26) 12 = .ok (.return_, 1) := by decide +kernel
theorem ok_29 : pm_ok 29 := ⟨pm_in 246 (by decide +kernel) (by decide +kernel), (by decide +kernel), (by decide +kernel), pm_in 39 (by decide +kernel) (by decide +kernel), (by decide +kernel), (by decide +kernel)⟩
theorem ki_29 : Cond.instanceMethod (pm_y 29) ∈ pm_W := pm_in 245 (by decide +kernel) (by decide +kernel)
theorem d29_0 : decode (pm_c 29) 0 = .ok (.aload_n 0, 1) := by decide +kernel
theorem d29_1 : decode (pm_c 29) 1 = .ok (.invokespecial 3, 3) := by decide +kernel
theorem kl_5_3 : Cond.methodLink (pm_own 5) 3 objectInit ∈ pm_W := pm_in 247 (by decide +kernel) (by decide +kernel)
theorem d29_4 : decode (pm_c 29) 4 = .ok (.aload_n 0, 1) := by decide +kernel
theorem d29_5 : decode (pm_c 29) 5 = .ok (.sipush 432, 3) := by decide +kernel
theorem d29_8 : decode (pm_c 29) 8 = .ok (.newarray .int, 2) := by decide +kernel
theorem d29_10 : decode (pm_c 29) 10 = .ok (.putfield 9, 3) := by decide +kernel
theorem kl_5_9 : Cond.fieldLink (pm_own 5) 9 (TX5 0).1 (TX5 0).2.1 (TX5 0).2.2.1 ∈ pm_W := pm_in 248 (by decide +kernel) (by decide +kernel)
theorem d29_13 : decode (pm_c 29) 13 = .ok (.aload_n 0, 1) := by decide +kernel
theorem d29_14 : decode (pm_c 29) 14 = .ok (.sipush 432, 3) := by decide +kernel
theorem d29_17 : decode (pm_c 29) 17 = .ok (.newarray .int, 2) := by decide +kernel
theorem d29_19 : decode (pm_c 29) 19 = .ok (.putfield 15, 3) := by decide +kernel
theorem kl_5_15 : Cond.fieldLink (pm_own 5) 15 (TX5 1).1 (TX5 1).2.1 (TX5 1).2.2.1 ∈ pm_W := pm_in 249 (by decide +kernel) (by decide +kernel)
theorem d29_22 : decode (pm_c 29) 22 = .ok (.aload_n 0, 1) := by decide +kernel
theorem d29_23 : decode (pm_c 29) 23 = .ok (.bipush 16, 2) := by decide +kernel
theorem d29_25 : decode (pm_c 29) 25 = .ok (.newarray .int, 2) := by decide +kernel
theorem d29_27 : decode (pm_c 29) 27 = .ok (.putfield 18, 3) := by decide +kernel
theorem kl_5_18 : Cond.fieldLink (pm_own 5) 18 (TX5 3).1 (TX5 3).2.1 (TX5 3).2.2.1 ∈ pm_W := pm_in 251 (by decide +kernel) (by decide +kernel)
theorem d29_30 : decode (pm_c 29) 30 = .ok (.aload_n 0, 1) := by decide +kernel
theorem d29_31 : decode (pm_c 29) 31 = .ok (.sipush 432, 3) := by decide +kernel
theorem d29_34 : decode (pm_c 29) 34 = .ok (.newarray .int, 2) := by decide +kernel
theorem d29_36 : decode (pm_c 29) 36 = .ok (.putfield 21, 3) := by decide +kernel
theorem kl_5_21 : Cond.fieldLink (pm_own 5) 21 (TX5 4).1 (TX5 4).2.1 (TX5 4).2.2.1 ∈ pm_W := pm_in 252 (by decide +kernel) (by decide +kernel)
theorem d29_39 : decode (pm_c 29) 39 = .ok (.aload_n 0, 1) := by decide +kernel
theorem d29_40 : decode (pm_c 29) 40 = .ok (.sipush 432, 3) := by decide +kernel
theorem d29_43 : decode (pm_c 29) 43 = .ok (.newarray .int, 2) := by decide +kernel
theorem d29_45 : decode (pm_c 29) 45 = .ok (.putfield 24, 3) := by decide +kernel
theorem kl_5_24 : Cond.fieldLink (pm_own 5) 24 (TX5 5).1 (TX5 5).2.1 (TX5 5).2.2.1 ∈ pm_W := pm_in 253 (by decide +kernel) (by decide +kernel)
theorem d29_48 : decode (pm_c 29) 48 = .ok (.aload_n 0, 1) := by decide +kernel
theorem d29_49 : decode (pm_c 29) 49 = .ok (.sipush 432, 3) := by decide +kernel
theorem d29_52 : decode (pm_c 29) 52 = .ok (.newarray .int, 2) := by decide +kernel
theorem d29_54 : decode (pm_c 29) 54 = .ok (.putfield 27, 3) := by decide +kernel
theorem kl_5_27 : Cond.fieldLink (pm_own 5) 27 (TX5 6).1 (TX5 6).2.1 (TX5 6).2.2.1 ∈ pm_W := pm_in 254 (by decide +kernel) (by decide +kernel)
theorem d29_57 : decode (pm_c 29) 57 = .ok (.return_, 1) := by decide +kernel
theorem ok_39 : pm_ok 39 := ⟨pm_in 178 (by decide +kernel) (by decide +kernel), (by decide +kernel), (by decide +kernel), pm_in 36 (by decide +kernel) (by decide +kernel), (by decide +kernel), (by decide +kernel)⟩
theorem ki_39 : Cond.instanceMethod (pm_y 39) ∈ pm_W := pm_in 177 (by decide +kernel) (by decide +kernel)
theorem d39_0 : decode (pm_c 39) 0 = .ok (.aload_n 0, 1) := by decide +kernel
theorem d39_1 : decode (pm_c 39) 1 = .ok (.invokespecial 3, 3) := by decide +kernel
theorem kl_6_3 : Cond.methodLink (pm_own 6) 3 objectInit ∈ pm_W := pm_in 179 (by decide +kernel) (by decide +kernel)
theorem d39_4 : decode (pm_c 39) 4 = .ok (.aload_n 0, 1) := by decide +kernel
theorem d39_5 : decode (pm_c 39) 5 = .ok (.iconst 2, 1) := by decide +kernel
theorem d39_6 : decode (pm_c 39) 6 = .ok (.putfield 9, 3) := by decide +kernel
theorem kl_6_9 : Cond.fieldLink (pm_own 6) 9 (TX6 0).1 (TX6 0).2.1 (TX6 0).2.2.1 ∈ pm_W := pm_in 180 (by decide +kernel) (by decide +kernel)
theorem d39_9 : decode (pm_c 39) 9 = .ok (.aload_n 0, 1) := by decide +kernel
theorem d39_10 : decode (pm_c 39) 10 = .ok (.sipush 1000, 3) := by decide +kernel
theorem d39_13 : decode (pm_c 39) 13 = .ok (.putfield 15, 3) := by decide +kernel
theorem kl_6_15 : Cond.fieldLink (pm_own 6) 15 (TX6 1).1 (TX6 1).2.1 (TX6 1).2.2.1 ∈ pm_W := pm_in 182 (by decide +kernel) (by decide +kernel)
theorem d39_16 : decode (pm_c 39) 16 = .ok (.aload_n 0, 1) := by decide +kernel
theorem d39_17 : decode (pm_c 39) 17 = .ok (.bipush (-2), 2) := by decide +kernel
theorem d39_19 : decode (pm_c 39) 19 = .ok (.putfield 18, 3) := by decide +kernel
theorem kl_6_18 : Cond.fieldLink (pm_own 6) 18 (TX6 2).1 (TX6 2).2.1 (TX6 2).2.2.1 ∈ pm_W := pm_in 184 (by decide +kernel) (by decide +kernel)
theorem d39_22 : decode (pm_c 39) 22 = .ok (.aload_n 0, 1) := by decide +kernel
theorem d39_23 : decode (pm_c 39) 23 = .ok (.sipush 6000, 3) := by decide +kernel
theorem d39_26 : decode (pm_c 39) 26 = .ok (.putfield 21, 3) := by decide +kernel
theorem kl_6_21 : Cond.fieldLink (pm_own 6) 21 (TX6 3).1 (TX6 3).2.1 (TX6 3).2.2.1 ∈ pm_W := pm_in 186 (by decide +kernel) (by decide +kernel)
theorem d39_29 : decode (pm_c 39) 29 = .ok (.aload_n 0, 1) := by decide +kernel
theorem d39_30 : decode (pm_c 39) 30 = .ok (.iconst 3, 1) := by decide +kernel
theorem d39_31 : decode (pm_c 39) 31 = .ok (.putfield 24, 3) := by decide +kernel
theorem kl_6_24 : Cond.fieldLink (pm_own 6) 24 (TX6 4).1 (TX6 4).2.1 (TX6 4).2.2.1 ∈ pm_W := pm_in 188 (by decide +kernel) (by decide +kernel)
theorem d39_34 : decode (pm_c 39) 34 = .ok (.aload_n 0, 1) := by decide +kernel
theorem d39_35 : decode (pm_c 39) 35 = .ok (.iconst 0, 1) := by decide +kernel
theorem d39_36 : decode (pm_c 39) 36 = .ok (.putfield 27, 3) := by decide +kernel
theorem kl_6_27 : Cond.fieldLink (pm_own 6) 27 (TX6 5).1 (TX6 5).2.1 (TX6 5).2.2.1 ∈ pm_W := pm_in 190 (by decide +kernel) (by decide +kernel)
theorem d39_39 : decode (pm_c 39) 39 = .ok (.aload_n 0, 1) := by decide +kernel
theorem d39_40 : decode (pm_c 39) 40 = .ok (.sipush 432, 3) := by decide +kernel
theorem d39_43 : decode (pm_c 39) 43 = .ok (.newarray .boolean, 2) := by decide +kernel
theorem d39_45 : decode (pm_c 39) 45 = .ok (.putfield 30, 3) := by decide +kernel
theorem kl_6_30 : Cond.fieldLink (pm_own 6) 30 (TX6 6).1 (TX6 6).2.1 (TX6 6).2.2.1 ∈ pm_W := pm_in 192 (by decide +kernel) (by decide +kernel)
theorem d39_48 : decode (pm_c 39) 48 = .ok (.return_, 1) := by decide +kernel
theorem ok_44 : pm_ok 44 := ⟨pm_in 86 (by decide +kernel) (by decide +kernel), (by decide +kernel), (by decide +kernel), pm_in 33 (by decide +kernel) (by decide +kernel), (by decide +kernel), (by decide +kernel)⟩
theorem ki_44 : Cond.instanceMethod (pm_y 44) ∈ pm_W := pm_in 85 (by decide +kernel) (by decide +kernel)
theorem d44_0 : decode (pm_c 44) 0 = .ok (.aload_n 0, 1) := by decide +kernel
theorem d44_1 : decode (pm_c 44) 1 = .ok (.invokespecial 3, 3) := by decide +kernel
theorem kl_7_3 : Cond.methodLink (pm_own 7) 3 objectInit ∈ pm_W := pm_in 87 (by decide +kernel) (by decide +kernel)
theorem d44_4 : decode (pm_c 44) 4 = .ok (.aload_n 0, 1) := by decide +kernel
theorem d44_5 : decode (pm_c 44) 5 = .ok (.sipush 432, 3) := by decide +kernel
theorem d44_8 : decode (pm_c 44) 8 = .ok (.newarray .int, 2) := by decide +kernel
theorem d44_10 : decode (pm_c 44) 10 = .ok (.putfield 9, 3) := by decide +kernel
theorem kl_7_9 : Cond.fieldLink (pm_own 7) 9 (TX7 0).1 (TX7 0).2.1 (TX7 0).2.2.1 ∈ pm_W := pm_in 88 (by decide +kernel) (by decide +kernel)
theorem d44_13 : decode (pm_c 44) 13 = .ok (.aload_n 0, 1) := by decide +kernel
theorem d44_14 : decode (pm_c 44) 14 = .ok (.sipush 432, 3) := by decide +kernel
theorem d44_17 : decode (pm_c 44) 17 = .ok (.newarray .int, 2) := by decide +kernel
theorem d44_19 : decode (pm_c 44) 19 = .ok (.putfield 15, 3) := by decide +kernel
theorem kl_7_15 : Cond.fieldLink (pm_own 7) 15 (TX7 1).1 (TX7 1).2.1 (TX7 1).2.2.1 ∈ pm_W := pm_in 91 (by decide +kernel) (by decide +kernel)
theorem d44_22 : decode (pm_c 44) 22 = .ok (.aload_n 0, 1) := by decide +kernel
theorem d44_23 : decode (pm_c 44) 23 = .ok (.sipush 146, 3) := by decide +kernel
theorem d44_26 : decode (pm_c 44) 26 = .ok (.newarray .int, 2) := by decide +kernel
theorem d44_28 : decode (pm_c 44) 28 = .ok (.putfield 18, 3) := by decide +kernel
theorem kl_7_18 : Cond.fieldLink (pm_own 7) 18 (TX7 2).1 (TX7 2).2.1 (TX7 2).2.2.1 ∈ pm_W := pm_in 94 (by decide +kernel) (by decide +kernel)
theorem d44_31 : decode (pm_c 44) 31 = .ok (.aload_n 0, 1) := by decide +kernel
theorem d44_32 : decode (pm_c 44) 32 = .ok (.sipush 876, 3) := by decide +kernel
theorem d44_35 : decode (pm_c 44) 35 = .ok (.newarray .int, 2) := by decide +kernel
theorem d44_37 : decode (pm_c 44) 37 = .ok (.putfield 21, 3) := by decide +kernel
theorem kl_7_21 : Cond.fieldLink (pm_own 7) 21 (TX7 3).1 (TX7 3).2.1 (TX7 3).2.2.1 ∈ pm_W := pm_in 97 (by decide +kernel) (by decide +kernel)
theorem d44_40 : decode (pm_c 44) 40 = .ok (.aload_n 0, 1) := by decide +kernel
theorem d44_41 : decode (pm_c 44) 41 = .ok (.sipush 876, 3) := by decide +kernel
theorem d44_44 : decode (pm_c 44) 44 = .ok (.newarray .int, 2) := by decide +kernel
theorem d44_46 : decode (pm_c 44) 46 = .ok (.putfield 24, 3) := by decide +kernel
theorem kl_7_24 : Cond.fieldLink (pm_own 7) 24 (TX7 4).1 (TX7 4).2.1 (TX7 4).2.2.1 ∈ pm_W := pm_in 100 (by decide +kernel) (by decide +kernel)
theorem d44_49 : decode (pm_c 44) 49 = .ok (.return_, 1) := by decide +kernel
theorem ok_49 : pm_ok 49 := ⟨pm_in 279 (by decide +kernel) (by decide +kernel), (by decide +kernel), (by decide +kernel), pm_in 40 (by decide +kernel) (by decide +kernel), (by decide +kernel), (by decide +kernel)⟩
theorem ki_49 : Cond.instanceMethod (pm_y 49) ∈ pm_W := pm_in 278 (by decide +kernel) (by decide +kernel)
theorem d49_0 : decode (pm_c 49) 0 = .ok (.aload_n 0, 1) := by decide +kernel
theorem d49_1 : decode (pm_c 49) 1 = .ok (.invokespecial 3, 3) := by decide +kernel
theorem kl_8_3 : Cond.methodLink (pm_own 8) 3 objectInit ∈ pm_W := pm_in 280 (by decide +kernel) (by decide +kernel)
theorem d49_4 : decode (pm_c 49) 4 = .ok (.aload_n 0, 1) := by decide +kernel
theorem d49_5 : decode (pm_c 49) 5 = .ok (.bipush 80, 2) := by decide +kernel
theorem d49_7 : decode (pm_c 49) 7 = .ok (.newarray .char, 2) := by decide +kernel
theorem d49_9 : decode (pm_c 49) 9 = .ok (.putfield 9, 3) := by decide +kernel
theorem kl_8_9 : Cond.fieldLink (pm_own 8) 9 (TX8 0).1 (TX8 0).2.1 (TX8 0).2.2.1 ∈ pm_W := pm_in 281 (by decide +kernel) (by decide +kernel)
theorem d49_12 : decode (pm_c 49) 12 = .ok (.return_, 1) := by decide +kernel
theorem ok_55 : pm_ok 55 := ⟨pm_in 231 (by decide +kernel) (by decide +kernel), (by decide +kernel), (by decide +kernel), pm_in 38 (by decide +kernel) (by decide +kernel), (by decide +kernel), (by decide +kernel)⟩
theorem ki_55 : Cond.instanceMethod (pm_y 55) ∈ pm_W := pm_in 230 (by decide +kernel) (by decide +kernel)
theorem d55_0 : decode (pm_c 55) 0 = .ok (.aload_n 0, 1) := by decide +kernel
theorem d55_1 : decode (pm_c 55) 1 = .ok (.invokespecial 3, 3) := by decide +kernel
theorem kl_9_3 : Cond.methodLink (pm_own 9) 3 objectInit ∈ pm_W := pm_in 232 (by decide +kernel) (by decide +kernel)
theorem d55_4 : decode (pm_c 55) 4 = .ok (.aload_n 0, 1) := by decide +kernel
theorem d55_5 : decode (pm_c 55) 5 = .ok (.sipush 146, 3) := by decide +kernel
theorem d55_8 : decode (pm_c 55) 8 = .ok (.newarray .int, 2) := by decide +kernel
theorem d55_10 : decode (pm_c 55) 10 = .ok (.putfield 9, 3) := by decide +kernel
theorem kl_9_9 : Cond.fieldLink (pm_own 9) 9 (TX9 0).1 (TX9 0).2.1 (TX9 0).2.2.1 ∈ pm_W := pm_in 233 (by decide +kernel) (by decide +kernel)
theorem d55_13 : decode (pm_c 55) 13 = .ok (.aload_n 0, 1) := by decide +kernel
theorem d55_14 : decode (pm_c 55) 14 = .ok (.sipush 146, 3) := by decide +kernel
theorem d55_17 : decode (pm_c 55) 17 = .ok (.newarray .int, 2) := by decide +kernel
theorem d55_19 : decode (pm_c 55) 19 = .ok (.putfield 15, 3) := by decide +kernel
theorem kl_9_15 : Cond.fieldLink (pm_own 9) 15 (TX9 1).1 (TX9 1).2.1 (TX9 1).2.2.1 ∈ pm_W := pm_in 234 (by decide +kernel) (by decide +kernel)
theorem d55_22 : decode (pm_c 55) 22 = .ok (.return_, 1) := by decide +kernel
theorem ok_3 : pm_ok 3 := ⟨pm_in 214 (by decide +kernel) (by decide +kernel), (by decide +kernel), (by decide +kernel), pm_in 37 (by decide +kernel) (by decide +kernel), (by decide +kernel), (by decide +kernel)⟩
theorem ki_3 : Cond.instanceMethod (pm_y 3) ∈ pm_W := pm_in 213 (by decide +kernel) (by decide +kernel)
theorem d3_0 : decode (pm_c 3) 0 = .ok (.aload_n 0, 1) := by decide +kernel
theorem d3_1 : decode (pm_c 3) 1 = .ok (.invokespecial 3, 3) := by decide +kernel
theorem kl_1_3 : Cond.methodLink (pm_own 1) 3 objectInit ∈ pm_W := pm_in 215 (by decide +kernel) (by decide +kernel)
theorem d3_4 : decode (pm_c 3) 4 = .ok (.aload_n 0, 1) := by decide +kernel
theorem d3_5 : decode (pm_c 3) 5 = .ok (.bipush 6, 2) := by decide +kernel
theorem d3_7 : decode (pm_c 3) 7 = .ok (.anewarray 9, 3) := by decide +kernel
theorem kl_1_9 : Cond.classLink (pm_own 1) 9 RX6 ∈ pm_W := pm_in 216 (by decide +kernel) (by decide +kernel)
theorem d3_10 : decode (pm_c 3) 10 = .ok (.putfield 11, 3) := by decide +kernel
theorem kl_1_11 : Cond.fieldLink (pm_own 1) 11 (TX1 0).1 (TX1 0).2.1 (TX1 0).2.2.1 ∈ pm_W := pm_in 219 (by decide +kernel) (by decide +kernel)
theorem d3_13 : decode (pm_c 3) 13 = .ok (.iconst 0, 1) := by decide +kernel
theorem d3_14 : decode (pm_c 3) 14 = .ok (.istore_n 1, 1) := by decide +kernel
theorem d3_15 : decode (pm_c 3) 15 = .ok (.iload_n 1, 1) := by decide +kernel
theorem d3_16 : decode (pm_c 3) 16 = .ok (.bipush 6, 2) := by decide +kernel
theorem d3_18 : decode (pm_c 3) 18 = .ok (.if_icmp .ge 22, 3) := by decide +kernel
theorem d3_21 : decode (pm_c 3) 21 = .ok (.aload_n 0, 1) := by decide +kernel
theorem d3_22 : decode (pm_c 3) 22 = .ok (.getfield 11, 3) := by decide +kernel
theorem d3_25 : decode (pm_c 3) 25 = .ok (.iload_n 1, 1) := by decide +kernel
theorem d3_26 : decode (pm_c 3) 26 = .ok (.new 9, 3) := by decide +kernel
theorem d3_29 : decode (pm_c 3) 29 = .ok (.dup, 1) := by decide +kernel
theorem d3_30 : decode (pm_c 3) 30 = .ok (.invokespecial 17, 3) := by decide +kernel
theorem kl_1_17 : (1, 17, 39) ∈ kc_nl := by decide +kernel
theorem d3_33 : decode (pm_c 3) 33 = .ok (.aastore, 1) := by decide +kernel
theorem d3_34 : decode (pm_c 3) 34 = .ok (.iinc 1 1, 3) := by decide +kernel
theorem d3_37 : decode (pm_c 3) 37 = .ok (.goto (-22), 3) := by decide +kernel
theorem d3_40 : decode (pm_c 3) 40 = .ok (.return_, 1) := by decide +kernel
theorem ok_58 : pm_ok 58 := ⟨pm_in 50 (by decide +kernel) (by decide +kernel), (by decide +kernel), (by decide +kernel), pm_in 31 (by decide +kernel) (by decide +kernel), (by decide +kernel), (by decide +kernel)⟩
theorem ki_58 : Cond.instanceMethod (pm_y 58) ∈ pm_W := pm_in 49 (by decide +kernel) (by decide +kernel)
theorem d58_0 : decode (pm_c 58) 0 = .ok (.aload_n 0, 1) := by decide +kernel
theorem d58_1 : decode (pm_c 58) 1 = .ok (.invokespecial 3, 3) := by decide +kernel
theorem kl_10_3 : Cond.methodLink (pm_own 10) 3 objectInit ∈ pm_W := pm_in 51 (by decide +kernel) (by decide +kernel)
theorem d58_4 : decode (pm_c 58) 4 = .ok (.aload_n 0, 1) := by decide +kernel
theorem d58_5 : decode (pm_c 58) 5 = .ok (.new 9, 3) := by decide +kernel
theorem kl_10_9 : Cond.classLink (pm_own 10) 9 RX2 ∈ pm_W := pm_in 54 (by decide +kernel) (by decide +kernel)
theorem d58_8 : decode (pm_c 58) 8 = .ok (.dup, 1) := by decide +kernel
theorem d58_9 : decode (pm_c 58) 9 = .ok (.invokespecial 11, 3) := by decide +kernel
theorem kl_10_11 : (10, 11, 7) ∈ kc_nl := by decide +kernel
theorem d58_12 : decode (pm_c 58) 12 = .ok (.putfield 12, 3) := by decide +kernel
theorem kl_10_12 : Cond.fieldLink (pm_own 10) 12 (TX10 0).1 (TX10 0).2.1 (TX10 0).2.2.1 ∈ pm_W := pm_in 387 (by decide +kernel) (by decide +kernel)
theorem d58_15 : decode (pm_c 58) 15 = .ok (.aload_n 0, 1) := by decide +kernel
theorem d58_16 : decode (pm_c 58) 16 = .ok (.new 16, 3) := by decide +kernel
theorem kl_10_16 : Cond.classLink (pm_own 10) 16 RX7 ∈ pm_W := pm_in 82 (by decide +kernel) (by decide +kernel)
theorem d58_19 : decode (pm_c 58) 19 = .ok (.dup, 1) := by decide +kernel
theorem d58_20 : decode (pm_c 58) 20 = .ok (.invokespecial 18, 3) := by decide +kernel
theorem kl_10_18 : (10, 18, 44) ∈ kc_nl := by decide +kernel
theorem d58_23 : decode (pm_c 58) 23 = .ok (.putfield 19, 3) := by decide +kernel
theorem kl_10_19 : Cond.fieldLink (pm_own 10) 19 (TX10 1).1 (TX10 1).2.1 (TX10 1).2.2.1 ∈ pm_W := pm_in 388 (by decide +kernel) (by decide +kernel)
theorem d58_26 : decode (pm_c 58) 26 = .ok (.aload_n 0, 1) := by decide +kernel
theorem d58_27 : decode (pm_c 58) 27 = .ok (.new 23, 3) := by decide +kernel
theorem kl_10_23 : Cond.classLink (pm_own 10) 23 RX3 ∈ pm_W := pm_in 118 (by decide +kernel) (by decide +kernel)
theorem d58_30 : decode (pm_c 58) 30 = .ok (.dup, 1) := by decide +kernel
theorem d58_31 : decode (pm_c 58) 31 = .ok (.invokespecial 25, 3) := by decide +kernel
theorem kl_10_25 : (10, 25, 17) ∈ kc_nl := by decide +kernel
theorem d58_34 : decode (pm_c 58) 34 = .ok (.putfield 26, 3) := by decide +kernel
theorem kl_10_26 : Cond.fieldLink (pm_own 10) 26 (TX10 2).1 (TX10 2).2.1 (TX10 2).2.2.1 ∈ pm_W := pm_in 389 (by decide +kernel) (by decide +kernel)
theorem d58_37 : decode (pm_c 58) 37 = .ok (.aload_n 0, 1) := by decide +kernel
theorem d58_38 : decode (pm_c 58) 38 = .ok (.new 30, 3) := by decide +kernel
theorem kl_10_30 : Cond.classLink (pm_own 10) 30 RX0 ∈ pm_W := pm_in 155 (by decide +kernel) (by decide +kernel)
theorem d58_41 : decode (pm_c 58) 41 = .ok (.dup, 1) := by decide +kernel
theorem d58_42 : decode (pm_c 58) 42 = .ok (.invokespecial 32, 3) := by decide +kernel
theorem kl_10_32 : (10, 32, 0) ∈ kc_nl := by decide +kernel
theorem d58_45 : decode (pm_c 58) 45 = .ok (.putfield 33, 3) := by decide +kernel
theorem kl_10_33 : Cond.fieldLink (pm_own 10) 33 (TX10 3).1 (TX10 3).2.1 (TX10 3).2.2.1 ∈ pm_W := pm_in 390 (by decide +kernel) (by decide +kernel)
theorem d58_48 : decode (pm_c 58) 48 = .ok (.aload_n 0, 1) := by decide +kernel
theorem d58_49 : decode (pm_c 58) 49 = .ok (.new 37, 3) := by decide +kernel
theorem kl_10_37 : Cond.classLink (pm_own 10) 37 RX6 ∈ pm_W := pm_in 174 (by decide +kernel) (by decide +kernel)
theorem d58_52 : decode (pm_c 58) 52 = .ok (.dup, 1) := by decide +kernel
theorem d58_53 : decode (pm_c 58) 53 = .ok (.invokespecial 39, 3) := by decide +kernel
theorem kl_10_39 : (10, 39, 39) ∈ kc_nl := by decide +kernel
theorem d58_56 : decode (pm_c 58) 56 = .ok (.putfield 40, 3) := by decide +kernel
theorem kl_10_40 : Cond.fieldLink (pm_own 10) 40 (TX10 4).1 (TX10 4).2.1 (TX10 4).2.2.1 ∈ pm_W := pm_in 391 (by decide +kernel) (by decide +kernel)
theorem d58_59 : decode (pm_c 58) 59 = .ok (.aload_n 0, 1) := by decide +kernel
theorem d58_60 : decode (pm_c 58) 60 = .ok (.new 44, 3) := by decide +kernel
theorem kl_10_44 : Cond.classLink (pm_own 10) 44 RX1 ∈ pm_W := pm_in 210 (by decide +kernel) (by decide +kernel)
theorem d58_63 : decode (pm_c 58) 63 = .ok (.dup, 1) := by decide +kernel
theorem d58_64 : decode (pm_c 58) 64 = .ok (.invokespecial 46, 3) := by decide +kernel
theorem kl_10_46 : Cond.methodLink (pm_own 10) 46 (pm_y 3) ∈ pm_W := pm_in 212 (by decide +kernel) (by decide +kernel)
theorem d58_67 : decode (pm_c 58) 67 = .ok (.putfield 47, 3) := by decide +kernel
theorem kl_10_47 : Cond.fieldLink (pm_own 10) 47 (TX10 5).1 (TX10 5).2.1 (TX10 5).2.2.1 ∈ pm_W := pm_in 392 (by decide +kernel) (by decide +kernel)
theorem d58_70 : decode (pm_c 58) 70 = .ok (.aload_n 0, 1) := by decide +kernel
theorem d58_71 : decode (pm_c 58) 71 = .ok (.new 51, 3) := by decide +kernel
theorem kl_10_51 : Cond.classLink (pm_own 10) 51 RX9 ∈ pm_W := pm_in 227 (by decide +kernel) (by decide +kernel)
theorem d58_74 : decode (pm_c 58) 74 = .ok (.dup, 1) := by decide +kernel
theorem d58_75 : decode (pm_c 58) 75 = .ok (.invokespecial 53, 3) := by decide +kernel
theorem kl_10_53 : (10, 53, 55) ∈ kc_nl := by decide +kernel
theorem d58_78 : decode (pm_c 58) 78 = .ok (.putfield 54, 3) := by decide +kernel
theorem kl_10_54 : Cond.fieldLink (pm_own 10) 54 (TX10 6).1 (TX10 6).2.1 (TX10 6).2.2.1 ∈ pm_W := pm_in 393 (by decide +kernel) (by decide +kernel)
theorem d58_81 : decode (pm_c 58) 81 = .ok (.aload_n 0, 1) := by decide +kernel
theorem d58_82 : decode (pm_c 58) 82 = .ok (.new 58, 3) := by decide +kernel
theorem kl_10_58 : Cond.classLink (pm_own 10) 58 RX5 ∈ pm_W := pm_in 242 (by decide +kernel) (by decide +kernel)
theorem d58_85 : decode (pm_c 58) 85 = .ok (.dup, 1) := by decide +kernel
theorem d58_86 : decode (pm_c 58) 86 = .ok (.invokespecial 60, 3) := by decide +kernel
theorem kl_10_60 : (10, 60, 29) ∈ kc_nl := by decide +kernel
theorem d58_89 : decode (pm_c 58) 89 = .ok (.putfield 61, 3) := by decide +kernel
theorem kl_10_61 : Cond.fieldLink (pm_own 10) 61 (TX10 7).1 (TX10 7).2.1 (TX10 7).2.2.1 ∈ pm_W := pm_in 394 (by decide +kernel) (by decide +kernel)
theorem d58_92 : decode (pm_c 58) 92 = .ok (.aload_n 0, 1) := by decide +kernel
theorem d58_93 : decode (pm_c 58) 93 = .ok (.new 65, 3) := by decide +kernel
theorem kl_10_65 : Cond.classLink (pm_own 10) 65 RX8 ∈ pm_W := pm_in 275 (by decide +kernel) (by decide +kernel)
theorem d58_96 : decode (pm_c 58) 96 = .ok (.dup, 1) := by decide +kernel
theorem d58_97 : decode (pm_c 58) 97 = .ok (.invokespecial 67, 3) := by decide +kernel
theorem kl_10_67 : (10, 67, 49) ∈ kc_nl := by decide +kernel
theorem d58_100 : decode (pm_c 58) 100 = .ok (.putfield 68, 3) := by decide +kernel
theorem kl_10_68 : Cond.fieldLink (pm_own 10) 68 (TX10 8).1 (TX10 8).2.1 (TX10 8).2.2.1 ∈ pm_W := pm_in 395 (by decide +kernel) (by decide +kernel)
theorem d58_103 : decode (pm_c 58) 103 = .ok (.aload_n 0, 1) := by decide +kernel
theorem d58_104 : decode (pm_c 58) 104 = .ok (.new 72, 3) := by decide +kernel
theorem kl_10_72 : Cond.classLink (pm_own 10) 72 RX4 ∈ pm_W := pm_in 295 (by decide +kernel) (by decide +kernel)
theorem d58_107 : decode (pm_c 58) 107 = .ok (.dup, 1) := by decide +kernel
theorem d58_108 : decode (pm_c 58) 108 = .ok (.invokespecial 74, 3) := by decide +kernel
theorem kl_10_74 : (10, 74, 26) ∈ kc_nl := by decide +kernel
theorem d58_111 : decode (pm_c 58) 111 = .ok (.putfield 75, 3) := by decide +kernel
theorem kl_10_75 : Cond.fieldLink (pm_own 10) 75 (TX10 9).1 (TX10 9).2.1 (TX10 9).2.2.1 ∈ pm_W := pm_in 396 (by decide +kernel) (by decide +kernel)
theorem d58_114 : decode (pm_c 58) 114 = .ok (.aload_n 0, 1) := by decide +kernel
theorem d58_115 : decode (pm_c 58) 115 = .ok (.sipush 432, 3) := by decide +kernel
theorem d58_118 : decode (pm_c 58) 118 = .ok (.newarray .int, 2) := by decide +kernel
theorem d58_120 : decode (pm_c 58) 120 = .ok (.putfield 79, 3) := by decide +kernel
theorem kl_10_79 : Cond.fieldLink (pm_own 10) 79 (TX10 10).1 (TX10 10).2.1 (TX10 10).2.2.1 ∈ pm_W := pm_in 397 (by decide +kernel) (by decide +kernel)
theorem d58_123 : decode (pm_c 58) 123 = .ok (.aload_n 0, 1) := by decide +kernel
theorem d58_124 : decode (pm_c 58) 124 = .ok (.invokevirtual 83, 3) := by decide +kernel
theorem d58_127 : decode (pm_c 58) 127 = .ok (.return_, 1) := by decide +kernel
