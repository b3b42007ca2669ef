/-! THE REFERENCE'S TEXTS -/
theorem wi_nI {c a b : Nat} (ha : a < 2 ^ 31) (hb : b < 2 ^ 31) (hc : c < 2 ^ 31) : (decide (nI a ≤ nI c) && decide (nI c ≤ nI b)) = (decide (a ≤ c) && decide (c ≤ b)) := by
  rw [Bool.eq_iff_iff]
  simp only [Bool.and_eq_true, decide_eq_true_eq, nI_le_iff ha hc, nI_le_iff hc hb]
theorem sp_176 {x : Txt} {p : Nat} {A : Mem} {Q : Int32 → Mem → Prop} (hX : okT x) (hT : MTx x A) (hp : A 0 26 = nI p) (hp2 : p < 900)
    (h : ∀ A2 : Mem, (∀ c, c ≠ 0 → A2 c = A c) → (∀ j, j ≠ 26 → A2 0 j = A 0 j) → A2 0 26 = nI (rdg x 3 p 0).1 → Q (if (rdg x 3 p 0).1 = p then -1 else nI (rdg x 3 p 0).2) A2) : pm_P 176 0 [(0, .ref 0)] [] A Q := by
  have k78 : ∀ (v d : Nat) (A1 : Mem), d ≤ 3 → v < 100000 → (∀ c, c ≠ 0 → A1 c = A c) → (∀ j, j ≠ 26 → A1 0 j = A 0 j) → A1 0 26 = nI (p + d) → rdg x 3 p 0 = (p + d, v) → pm_P 176 78 [(0, .ref 0), (1, .int (nI p)), (2, .int (nI v))] [] A1 Q := by
    intro v d A1 hd hv g1 g2 g3 g4
    have hh := h A1 g1 g2 (by rw [g4]; exact g3)
    rw [g4] at hh
    dsimp only at hh
    refine pm_aload_n (i := 0) d176_78 rfl rfl ?_
    refine pm_getE d176_79 lf_11_226 rfl rfl (g3) ?_
    refine pm_iload_n (i := 1) d176_82 rfl rfl ?_
    first | refine pm_icmp_neN (tgt := 90) d176_83 rfl (by omega) (by omega) (fun c_83 => ?_) (fun c_83 => ?_) | refine pm_icmp_ne (tgt := 90) d176_83 rfl (fun c_83 => ?_) (fun c_83 => ?_)
    · refine pm_iload_n (i := 2) d176_90 rfl rfl ?_
      refine pm_iret d176_91 rfl (by first | rfl | exact nar_b _) ?_
      rw [if_neg (by omega)] at hh
      exact hh
    · refine pm_iconst (v := -1) d176_86 (by decide) ?_
      refine pm_goto (tgt := 91) d176_87 rfl ?_
      refine pm_iret d176_91 rfl (by first | rfl | exact nar_b _) ?_
      rw [if_pos (by omega)] at hh
      exact hh
  have lp : ∀ k d v (A1 : Mem), k + d = 3 → v < 10 ^ d → (∀ c, c ≠ 0 → A1 c = A c) → (∀ j, j ≠ 26 → A1 0 j = A 0 j) → A1 0 26 = nI (p + d) → rdg x 3 p 0 = rdg x k (p + d) v → pm_P 176 7 [(0, .ref 0), (1, .int (nI p)), (2, .int (nI v))] [] A1 Q := by
    intro k
    induction k with
    | zero =>
      intro d v A1 hkd hv g1 g2 g3 g4
      rw [show d = 3 by omega] at *
      have x1 := hX.1
      have e4 : A1 0 4 = nI x.1 := by rw [g2 4 (by decide)]; exact hT.1
      refine pm_aload_n (i := 0) d176_7 rfl rfl ?_
      refine pm_getE d176_8 lf_11_226 rfl rfl (g3) ?_
      refine pm_aload_n (i := 0) d176_11 rfl rfl ?_
      refine pm_getE d176_12 lf_11_185 rfl rfl (e4) ?_
      first | refine pm_icmp_geN (tgt := 78) d176_15 rfl (by omega) (by omega) (fun c_15 => ?_) (fun c_15 => ?_) | refine pm_icmp_ge (tgt := 78) d176_15 rfl (fun c_15 => ?_) (fun c_15 => ?_)
      · exact k78 v 3 A1 (by omega) (Nat.lt_trans hv (by decide)) g1 g2 g3 g4
      · refine pm_aload_n (i := 0) d176_18 rfl rfl ?_
        refine pm_getE d176_19 lf_11_226 rfl rfl (g3) ?_
        refine pm_iload_n (i := 1) d176_22 rfl rfl ?_
        first | refine pm_isubN d176_23 (by omega) ?_ | refine pm_isub d176_23 ?_
        refine pm_iconst (v := nI 3) d176_24 (by decide) ?_
        first | refine pm_icmp_geN (tgt := 78) d176_25 rfl (by omega) (by omega) (fun c_25 => ?_) (fun c_25 => ?_) | refine pm_icmp_ge (tgt := 78) d176_25 rfl (fun c_25 => ?_) (fun c_25 => ?_)
        · exact k78 v 3 A1 (by omega) (Nat.lt_trans hv (by decide)) g1 g2 g3 g4
        · omega
    | succ k ih =>
      intro d v A1 hkd hv g1 g2 g3 g4
      have hv3 : v < 1000 := Nat.lt_of_lt_of_le hv (Nat.pow_le_pow_right (by decide) (show d ≤ 3 by omega))
      have x1 := hX.1
      have e4 : A1 0 4 = nI x.1 := by rw [g2 4 (by decide)]; exact hT.1
      rw [show rdg x (k + 1) (p + d) v = (if isd x (p + d) = true then rdg x k (p + d + 1) (10 * v + x.2 (p + d) - 48) else (p + d, v)) from rfl] at g4
      have fin : isd x (p + d) = false → rdg x 3 p 0 = (p + d, v) := fun e => by
        rw [g4, if_neg (by rw [e]; decide)]
      refine pm_aload_n (i := 0) d176_7 rfl rfl ?_
      refine pm_getE (v := nI (p + d)) d176_8 lf_11_226 rfl rfl (by simp [mset_get, g3]) ?_
      refine pm_aload_n (i := 0) d176_11 rfl rfl ?_
      refine pm_getE d176_12 lf_11_185 rfl rfl (e4) ?_
      first | refine pm_icmp_geN (tgt := 78) d176_15 rfl (by omega) (by omega) (fun c_15 => ?_) (fun c_15 => ?_) | refine pm_icmp_ge (tgt := 78) d176_15 rfl (fun c_15 => ?_) (fun c_15 => ?_)
      · refine k78 v d A1 (by omega) (by omega) g1 g2 g3 (fin (by unfold isd; rw [decide_eq_false (by omega), Bool.false_and]))
      · have x2 := hX.2 _ c_15
        have e3 : A1 3 (p + d) = nI (x.2 (p + d)) := by rw [g1 3 (by decide)]; exact hT.2 _ c_15 
        refine pm_aload_n (i := 0) d176_18 rfl rfl ?_
        refine pm_getE (v := nI (p + d)) d176_19 lf_11_226 rfl rfl (by simp [mset_get, g3]) ?_
        refine pm_iload_n (i := 1) d176_22 rfl rfl ?_
        first | refine pm_isubN d176_23 (by omega) ?_ | refine pm_isub d176_23 ?_
        refine pm_iconst (v := nI 3) d176_24 (by decide) ?_
        first | refine pm_icmp_geN (tgt := 78) d176_25 rfl (by omega) (by omega) (fun c_25 => ?_) (fun c_25 => ?_) | refine pm_icmp_ge (tgt := 78) d176_25 rfl (fun c_25 => ?_) (fun c_25 => ?_)
        · omega
        · refine pm_aload_n (i := 0) d176_28 rfl rfl ?_
          refine pm_getR d176_29 lf_11_16 rfl rfl ?_
          refine pm_aload_n (i := 0) d176_32 rfl rfl ?_
          refine pm_getE (v := nI (p + d)) d176_33 lf_11_226 rfl rfl (by simp [mset_get, g3]) ?_
          refine pm_baldN d176_36 rfl (by decide) (by omega) ?_
          rw [e3]
          refine pm_bipush (v := nI 48) d176_37 (by decide) ?_
          refine pm_bipush (v := nI 57) d176_39 (by decide) ?_
          refine pm_callS (k2 := 113) (As := [_, _, _]) d176_41 lk_11_130 ok_113 rfl rfl rfl (Nat.le_of_ble_eq_true rfl) rfl rfl ⟨Nat.le_of_ble_eq_true rfl, Nat.le_of_ble_eq_true rfl⟩ (Nat.le_of_ble_eq_true rfl) ?_
          refine sp_113 ?_
          rw [wi_nI (by decide) (by decide) (by omega)]
          have eisd : isd x (p + d) = (decide (48 ≤ x.2 (p + d)) && decide (x.2 (p + d) ≤ 57)) := by unfold isd; rw [decide_eq_true c_15, Bool.true_and]
          rw [← eisd]
          first | refine pm_if_eqB (tgt := 78) d176_44 rfl (fun c_44 => ?_) (fun c_44 => ?_) | refine pm_if_eqN (tgt := 78) d176_44 rfl (by omega) (fun c_44 => ?_) (fun c_44 => ?_) | refine pm_if_eq (tgt := 78) d176_44 rfl (fun c_44 => ?_) (fun c_44 => ?_)
          · exact k78 v d A1 (by omega) (by omega) g1 g2 g3 (fin c_44)
          · have c44 := c_44
            simp only [isd, Bool.and_eq_true, decide_eq_true_eq] at c44
            rw [if_pos c_44] at g4 
            refine pm_bipush (v := nI 10) d176_47 (by decide) ?_
            refine pm_iload_n (i := 2) d176_49 rfl rfl ?_
            first | refine pm_imulN d176_50 ?_ | refine pm_imul d176_50 ?_
            refine pm_aload_n (i := 0) d176_51 rfl rfl ?_
            refine pm_getR d176_52 lf_11_16 rfl rfl ?_
            refine pm_aload_n (i := 0) d176_55 rfl rfl ?_
            refine pm_getE (v := nI (p + d)) d176_56 lf_11_226 rfl rfl (by simp [mset_get, g3]) ?_
            refine pm_baldN d176_59 rfl (by decide) (by omega) ?_
            rw [e3]
            first | refine pm_iaddN d176_60 ?_ | refine pm_iadd d176_60 ?_
            refine pm_bipush (v := nI 48) d176_61 (by decide) ?_
            first | refine pm_isubN d176_63 (by omega) ?_ | refine pm_isub d176_63 ?_
            refine pm_istore_n (i := 2) (L2 := [(0, _), (1, _), (2, _)]) d176_64 rfl (by decide) rfl ?_
            refine pm_aload_n (i := 0) d176_65 rfl rfl ?_
            refine pm_dup d176_66 rfl ?_
            refine pm_getE (v := nI (p + d)) d176_67 lf_11_226 rfl rfl (by simp [mset_get, g3]) ?_
            refine pm_iconst (v := nI 1) d176_70 (by decide) ?_
            first | refine pm_iaddN d176_71 ?_ | refine pm_iadd d176_71 ?_
            refine pm_putI d176_72 lp_11_226 rfl rfl ?_
            refine pm_goto (tgt := 7) d176_75 rfl ?_
            refine ih (d + 1) _ _ (by omega) ?_ (fun c q => by rw [mset_other q]; exact g1 c q) (fun j q => by rw [mset_ne q]; exact g2 j q) (by simp [mset_get, Nat.add_assoc]) g4
            rw [Nat.pow_succ]
            omega
  refine pm_aload_n (i := 0) d176_0 rfl rfl ?_
  refine pm_getE d176_1 lf_11_226 rfl rfl (hp) ?_
  refine pm_istore_n (i := 1) (L2 := [(0, _), (1, _)]) d176_4 rfl (by decide) rfl ?_
  refine pm_iconst (v := nI 0) d176_5 (by decide) ?_
  refine pm_istore_n (i := 2) (L2 := [(0, _), (1, _), (2, _)]) d176_6 rfl (by decide) rfl ?_
  exact lp 3 0 0 A rfl (by decide) (fun _ _ => rfl) (fun _ _ => rfl) hp rfl
theorem sp_177 {x : Txt} {p c : Nat} {A : Mem} {Q : Int32 → Mem → Prop} (hX : okT x) (hT : MTx x A) (hp : A 0 26 = nI p) (hp2 : p < 1000) (hc : c < 1000)
    (h : ∀ A2 : Mem, (∀ c, c ≠ 0 → A2 c = A c) → (∀ j, j ≠ 26 → A2 0 j = A 0 j) → (sgn x c p = true → A2 0 26 = nI (p + 1)) → Q (b2i (sgn x c p)) A2) : pm_P 177 0 [(0, .ref 0), (1, .int (nI c))] [] A Q := by
  have k30 : ∀ b : Bool, b = sgn x c p → pm_P 177 30 [(0, .ref 0), (1, .int (nI c)), (2, .int (b2i b))] [] A Q := by
    intro b hb9
    rw [← hb9] at h
    refine pm_aload_n (i := 0) d177_30 rfl rfl ?_
    refine pm_dup d177_31 rfl ?_
    refine pm_getE d177_32 lf_11_226 rfl rfl (hp) ?_
    refine pm_iload_n (i := 2) d177_35 rfl rfl ?_
    first | refine pm_if_eqB (tgt := 43) d177_36 rfl (fun c_36 => ?_) (fun c_36 => ?_) | refine pm_if_eqN (tgt := 43) d177_36 rfl (by omega) (fun c_36 => ?_) (fun c_36 => ?_) | refine pm_if_eq (tgt := 43) d177_36 rfl (fun c_36 => ?_) (fun c_36 => ?_)
    · refine pm_iconst (v := nI 0) d177_43 (by decide) ?_
      first | refine pm_iaddN d177_44 ?_ | refine pm_iadd d177_44 ?_
      refine pm_putI d177_45 lp_11_226 rfl rfl ?_
      refine pm_iload_n (i := 2) d177_48 rfl rfl ?_
      refine pm_iret d177_49 rfl (by first | rfl | exact nar_b _) ?_
      refine h _ (fun c q => by rw [mset_other q]) (fun j q => by rw [mset_ne q]) (fun q => by rw [c_36] at q; cases q)
    · refine pm_iconst (v := nI 1) d177_39 (by decide) ?_
      refine pm_goto (tgt := 44) d177_40 rfl ?_
      first | refine pm_iaddN d177_44 ?_ | refine pm_iadd d177_44 ?_
      refine pm_putI d177_45 lp_11_226 rfl rfl ?_
      refine pm_iload_n (i := 2) d177_48 rfl rfl ?_
      refine pm_iret d177_49 rfl (by first | rfl | exact nar_b _) ?_
      refine h _ (fun c q => by rw [mset_other q]) (fun j q => by rw [mset_ne q]) (fun _ => by rw [mset_at])
  have x1 := hX.1
  refine pm_aload_n (i := 0) d177_0 rfl rfl ?_
  refine pm_getE d177_1 lf_11_226 rfl rfl (hp) ?_
  refine pm_aload_n (i := 0) d177_4 rfl rfl ?_
  refine pm_getE d177_5 lf_11_185 rfl rfl (hT.1) ?_
  first | refine pm_icmp_geN (tgt := 28) d177_8 rfl (by omega) (by omega) (fun c_8 => ?_) (fun c_8 => ?_) | refine pm_icmp_ge (tgt := 28) d177_8 rfl (fun c_8 => ?_) (fun c_8 => ?_)
  · refine pm_iconst (v := nI 0) d177_28 (by decide) ?_
    refine pm_istore_n (i := 2) (L2 := [(0, _), (1, _), (2, _)]) d177_29 rfl (by decide) rfl ?_
    exact k30 false (by unfold sgn; rw [decide_eq_false (by omega), Bool.false_and])
  · have x2 := hX.2 p c_8 
    refine pm_aload_n (i := 0) d177_11 rfl rfl ?_
    refine pm_getR d177_12 lf_11_16 rfl rfl ?_
    refine pm_aload_n (i := 0) d177_15 rfl rfl ?_
    refine pm_getE d177_16 lf_11_226 rfl rfl (hp) ?_
    refine pm_baldN d177_19 rfl (by decide) (by omega) ?_
    rw [hT.2 p c_8]
    refine pm_iload_n (i := 1) d177_20 rfl rfl ?_
    first | refine pm_icmp_neN (tgt := 28) d177_21 rfl (by omega) (by omega) (fun c_21 => ?_) (fun c_21 => ?_) | refine pm_icmp_ne (tgt := 28) d177_21 rfl (fun c_21 => ?_) (fun c_21 => ?_)
    · refine pm_iconst (v := nI 0) d177_28 (by decide) ?_
      refine pm_istore_n (i := 2) (L2 := [(0, _), (1, _), (2, _)]) d177_29 rfl (by decide) rfl ?_
      exact k30 false (by unfold sgn; rw [decide_eq_false c_21, Bool.and_false])
    · refine pm_iconst (v := nI 1) d177_24 (by decide) ?_
      refine pm_goto (tgt := 29) d177_25 rfl ?_
      refine pm_istore_n (i := 2) (L2 := [(0, _), (1, _), (2, _)]) d177_29 rfl (by decide) rfl ?_
      exact k30 true (by unfold sgn; rw [decide_eq_true c_8, decide_eq_true c_21]; rfl)
theorem sp_178 {x : Txt} {p : Nat} {A : Mem} {Q : Int32 → Mem → Prop} (hX : okT x) (hT : MTx x A) (hp : A 0 26 = nI p) (hp2 : p < 800)
    (h0 : ∀ A2 : Mem, (∀ c, c ≠ 0 → A2 c = A c) → (∀ j, j < 26 ∨ 28 < j → A2 0 j = A 0 j) → prs x p = none → Q (b2i false) A2)
    (h1 : ∀ (A2 : Mem) a b e, (∀ c, c ≠ 0 → A2 c = A c) → (∀ j, j < 26 ∨ 28 < j → A2 0 j = A 0 j) → prs x p = some (a, b, e) → A2 0 26 = nI e → A2 0 27 = nI a → A2 0 28 = nI b → Q (b2i true) A2) : pm_P 178 0 [(0, .ref 0)] [] A Q := by
  have n31 := rdg_3 x p
  have n32 := rdg_3 x ((rdg x 3 p 0).1 + 1)
  refine pm_aload_n (i := 0) d178_0 rfl rfl ?_
  refine pm_aload_n (i := 0) d178_1 rfl rfl ?_
  refine pm_callV (k2 := 176) (As := []) d178_2 lk_11_228 ok_176 rfl rfl rfl (Nat.le_of_ble_eq_true rfl) rfl rfl rfl rfl rfl ⟨Nat.le_of_ble_eq_true rfl, Nat.le_of_ble_eq_true rfl⟩ (Nat.le_of_ble_eq_true rfl) ?_
  refine sp_176 hX hT hp (by omega) (fun A1 f1 f2 f3 => ?_)
  have hT1 : ∀ v, MTx x (mset A1 0 27 v) := fun v => MTx_keep hT (by rw [mset_ne (by decide)]; exact f2 4 (by decide)) (by rw [mset_other (by decide)]; exact f1 3 (by decide))
  refine pm_putI d178_5 lp_11_231 rfl rfl ?_
  refine pm_aload_n (i := 0) d178_8 rfl rfl ?_
  refine pm_getE (v := (if (rdg x 3 p 0).1 = p then -1 else nI (rdg x 3 p 0).2)) d178_9 lf_11_231 rfl rfl (by rw [mset_at]) ?_
  refine pm_if_lt (tgt := 24) d178_12 rfl (fun c_12 => ?_) (fun c_12 => ?_)
  · refine pm_iconst (v := nI 0) d178_24 (by decide) ?_
    refine pm_iret d178_25 rfl rfl ?_
    refine h0 _ (fun c q => by rw [mset_other q]; exact f1 c q) (fun j q => by rw [mset_ne (by omega)]; exact f2 j (by omega)) ?_
    by_cases e : (rdg x 3 p 0).1 = p
    · unfold prs; rw [if_pos e]
    · rw [if_neg e] at c_12
      exact absurd c_12 (nI_pos (by omega))
  · have e1 : ¬ (rdg x 3 p 0).1 = p := fun e => c_12 (by rw [if_pos e]; decide)
    rw [if_neg e1] 
    refine pm_aload_n (i := 0) d178_15 rfl rfl ?_
    refine pm_bipush (v := nI 45) d178_16 (by decide) ?_
    refine pm_callV (k2 := 177) (As := [_]) d178_18 lk_11_234 ok_177 rfl rfl rfl (Nat.le_of_ble_eq_true rfl) rfl rfl rfl rfl rfl ⟨Nat.le_of_ble_eq_true rfl, Nat.le_of_ble_eq_true rfl⟩ (Nat.le_of_ble_eq_true rfl) ?_
    refine sp_177 hX (hT1 _) (by rw [mset_ne (by decide)]; exact f3) (by omega) (by decide) (fun A2 g1 g2 g3 => ?_)
    first | refine pm_if_neB (tgt := 26) d178_21 rfl (fun c_21 => ?_) (fun c_21 => ?_) | refine pm_if_neN (tgt := 26) d178_21 rfl (by omega) (fun c_21 => ?_) (fun c_21 => ?_) | refine pm_if_ne (tgt := 26) d178_21 rfl (fun c_21 => ?_) (fun c_21 => ?_)
    · have g4 := g3 c_21
      have hT2 : MTx x A2 := MTx_keep (hT1 _) (g2 4 (by decide)) (g1 3 (by decide)) 
      refine pm_aload_n (i := 0) d178_26 rfl rfl ?_
      refine pm_aload_n (i := 0) d178_27 rfl rfl ?_
      refine pm_callV (k2 := 176) (As := []) d178_28 lk_11_228 ok_176 rfl rfl rfl (Nat.le_of_ble_eq_true rfl) rfl rfl rfl rfl rfl ⟨Nat.le_of_ble_eq_true rfl, Nat.le_of_ble_eq_true rfl⟩ (Nat.le_of_ble_eq_true rfl) ?_
      refine sp_176 (p := (rdg x 3 p 0).1 + 1) hX hT2 g4 (by omega) (fun A3 k1 k2 k3 => ?_)
      have hT3 : ∀ v, MTx x (mset A3 0 28 v) := fun v => MTx_keep hT2 (by rw [mset_ne (by decide)]; exact k2 4 (by decide)) (by rw [mset_other (by decide)]; exact k1 3 (by decide))
      have z1 : ∀ v, ∀ c, c ≠ 0 → mset A3 0 28 v c = A c := fun v c q => by rw [mset_other q, k1 c q, g1 c q, mset_other q]; exact f1 c q
      have z2 : ∀ v, ∀ j, j < 26 ∨ 28 < j → mset A3 0 28 v 0 j = A 0 j := fun v j q => by rw [mset_ne (by omega), k2 j (by omega), g2 j (by omega), mset_ne (by omega)]; exact f2 j (by omega)
      have z27 : ∀ v, mset A3 0 28 v 0 27 = nI (rdg x 3 p 0).2 := fun v => by rw [mset_ne (by decide), k2 27 (by decide), g2 27 (by decide), mset_at]
      refine pm_putI d178_31 lp_11_237 rfl rfl ?_
      refine pm_aload_n (i := 0) d178_34 rfl rfl ?_
      refine pm_getE (v := (if (rdg x 3 ((rdg x 3 p 0).1 + 1) 0).1 = (rdg x 3 p 0).1 + 1 then -1 else nI (rdg x 3 ((rdg x 3 p 0).1 + 1) 0).2)) d178_35 lf_11_237 rfl rfl (by rw [mset_at]) ?_
      refine pm_if_lt (tgt := 54) d178_38 rfl (fun c_38 => ?_) (fun c_38 => ?_)
      · refine pm_iconst (v := nI 0) d178_54 (by decide) ?_
        refine pm_iret d178_55 rfl rfl ?_
        refine h0 _ (z1 _) (z2 _) ?_
        by_cases e : (rdg x 3 ((rdg x 3 p 0).1 + 1) 0).1 = (rdg x 3 p 0).1 + 1
        · unfold prs; rw [if_neg e1, if_pos c_21, if_pos e]
        · rw [if_neg e] at c_38
          exact absurd c_38 (nI_pos (by omega))
      · have e2 : ¬ (rdg x 3 ((rdg x 3 p 0).1 + 1) 0).1 = (rdg x 3 p 0).1 + 1 := fun e => c_38 (by rw [if_pos e]; decide)
        rw [if_neg e2] 
        refine pm_aload_n (i := 0) d178_41 rfl rfl ?_
        refine pm_bipush (v := nI 59) d178_42 (by decide) ?_
        refine pm_callV (k2 := 177) (As := [_]) d178_44 lk_11_234 ok_177 rfl rfl rfl (Nat.le_of_ble_eq_true rfl) rfl rfl rfl rfl rfl ⟨Nat.le_of_ble_eq_true rfl, Nat.le_of_ble_eq_true rfl⟩ (Nat.le_of_ble_eq_true rfl) ?_
        refine sp_177 hX (hT3 _) (by rw [mset_ne (by decide)]; exact k3) (by omega) (by decide) (fun A4 m1 m2 m3 => ?_)
        first | refine pm_if_eqB (tgt := 54) d178_47 rfl (fun c_47 => ?_) (fun c_47 => ?_) | refine pm_if_eqN (tgt := 54) d178_47 rfl (by omega) (fun c_47 => ?_) (fun c_47 => ?_) | refine pm_if_eq (tgt := 54) d178_47 rfl (fun c_47 => ?_) (fun c_47 => ?_)
        · refine pm_iconst (v := nI 0) d178_54 (by decide) ?_
          refine pm_iret d178_55 rfl rfl ?_
          refine h0 _ (fun c q => by rw [m1 c q]; exact z1 _ c q) (fun j q => by rw [m2 j (by omega)]; exact z2 _ j q) ?_
          unfold prs
          rw [if_neg e1, if_pos c_21, if_neg e2, if_neg (by rw [c_47]; decide)]
        · refine pm_iconst (v := nI 1) d178_50 (by decide) ?_
          refine pm_goto (tgt := 55) d178_51 rfl ?_
          refine pm_iret d178_55 rfl (by first | rfl | exact nar_b _) ?_
          refine h1 _ (rdg x 3 p 0).2 (rdg x 3 ((rdg x 3 p 0).1 + 1) 0).2 ((rdg x 3 ((rdg x 3 p 0).1 + 1) 0).1 + 1) (fun c q => by rw [m1 c q]; exact z1 _ c q) (fun j q => by rw [m2 j (by omega)]; exact z2 _ j q) ?_ (m3 c_47) ?_ ?_
          · unfold prs
            rw [if_neg e1, if_pos c_21, if_neg e2, if_pos c_47]
          · rw [m2 27 (by decide), z27]
          · rw [m2 28 (by decide), mset_at]
    · refine pm_iconst (v := nI 0) d178_24 (by decide) ?_
      refine pm_iret d178_25 rfl rfl ?_
      refine h0 _ (fun c q => by rw [g1 c q, mset_other q]; exact f1 c q) (fun j q => by rw [g2 j (by omega), mset_ne (by omega)]; exact f2 j (by omega)) ?_
      unfold prs
      rw [if_neg e1, if_neg (by rw [c_21]; decide)]
def TM (c : Nat) (l : Nat → Nat) (A : Mem) : Prop := A 0 30 = nI c ∧ ∀ k, k < 432 → A 19 k = b2i (anyN (fun i => decide (l i = k)) c)
theorem sp_179 {s : Stt} {x : Txt} {p c : Nat} {l : Nat → Nat} {A : Mem} {Q : Int32 → Mem → Prop} (hI : MI s A) (hX : okT x) (hT : MTx x A) (hp : A 0 26 = nI p) (hp2 : p < 800) (hL : TM c l A) (hc : c < 20)
    (h : ∀ A2 : Mem, (∀ q, q ≠ 0 → q ≠ 19 → A2 q = A q) → (∀ j, j < 26 ∨ j = 29 ∨ 30 < j → A2 0 j = A 0 j) → ((rsn s x p c l).1 = 0 → A2 0 26 = nI (rsn s x p c l).2.2 ∧ TM (c + 1) (uN l c (rsn s x p c l).2.1) A2) → Q (nI (rsn s x p c l).1) A2) : pm_P 179 0 [(0, .ref 0)] [] A Q := by
  obtain ⟨F1, F6, -⟩ := hI.1
  have hb := MI_bd hI
  have bad : ∀ (A2 : Mem) (r : Nat), (∀ q, q ≠ 0 → A2 q = A q) → (∀ j, j < 26 ∨ 28 < j → A2 0 j = A 0 j) → rsn s x p c l = (r, 0, 0) → ¬ r = 0 → Q (nI r) A2 := by
    intro A2 r g1 g2 g3 g4
    have := h A2 (fun q q1 _ => g1 q q1) (fun j hj => g2 j (by omega)) (fun q => by rw [g3] at q; exact absurd q g4)
    rw [g3] at this
    exact this
  refine pm_aload_n (i := 0) d179_0 rfl rfl ?_
  refine pm_callV (k2 := 178) (As := []) d179_1 lk_11_240 ok_178 rfl rfl rfl (Nat.le_of_ble_eq_true rfl) rfl rfl rfl rfl rfl ⟨Nat.le_of_ble_eq_true rfl, Nat.le_of_ble_eq_true rfl⟩ (Nat.le_of_ble_eq_true rfl) ?_
  refine sp_178 hX hT hp hp2 (fun A2 f1 f2 f3 => ?_) (fun A2 a b e f1 f2 f3 f4 f5 f6 => ?_)
  · refine pm_if_neB (tgt := 9) d179_4 rfl (fun c => by cases c) (fun c => ?_)
    refine pm_iconst (v := nI 1) d179_7 (by decide) ?_
    refine pm_iret d179_8 rfl rfl ?_
    exact bad A2 1 f1 f2 (by unfold rsn; rw [f3]) (by decide)
  have hI2 : MI s A2 := MI_keep hI (fun j _ _ => f2 j (by omega)) (fun c _ _ => f1 c (by omega)) (f1 1 (by decide))
  have pb := prs_bd f3
  have h47 : rsn s x p c l = if nh (sF s) ≤ a ∨ nh (sF s) ≤ b then (2, 0, 0) else match btw (sF s) a b with
    | none => (3, 0, 0)
    | some k => if b < a then (3, 0, 0) else if sM s k = true then (4, 0, 0) else if anyN (fun i => decide (l i = k)) c = true then (5, 0, 0) else (0, k, e) := by
    unfold rsn
    rw [f3]
    rfl
  first | refine pm_if_neB (tgt := 9) d179_4 rfl (fun c_4 => ?_) (fun c_4 => ?_) | refine pm_if_neN (tgt := 9) d179_4 rfl (by omega) (fun c_4 => ?_) (fun c_4 => ?_) | refine pm_if_ne (tgt := 9) d179_4 rfl (fun c_4 => ?_) (fun c_4 => ?_)
  · refine pm_aload_n (i := 0) d179_9 rfl rfl ?_
    refine pm_aload_n (i := 0) d179_10 rfl rfl ?_
    refine pm_getE d179_11 lf_11_231 rfl rfl (f5) ?_
    refine pm_callV (k2 := 144) (As := [_]) d179_14 lk_11_188 ok_144 rfl rfl rfl (Nat.le_of_ble_eq_true rfl) rfl rfl rfl rfl rfl ⟨Nat.le_of_ble_eq_true rfl, Nat.le_of_ble_eq_true rfl⟩ (Nat.le_of_ble_eq_true rfl) ?_
    refine sp_144 hI2 ?_
    first | refine pm_if_eqB (tgt := 31) d179_17 rfl (fun c_17 => ?_) (fun c_17 => ?_) | refine pm_if_eqN (tgt := 31) d179_17 rfl (by omega) (fun c_17 => ?_) (fun c_17 => ?_) | refine pm_if_eq (tgt := 31) d179_17 rfl (fun c_17 => ?_) (fun c_17 => ?_)
    · refine pm_iconst (v := nI 2) d179_31 (by decide) ?_
      refine pm_iret d179_32 rfl rfl ?_
      refine bad A2 2 f1 f2 ?_ (by decide)
      rw [h47, if_pos]
      rcases Nat.lt_or_ge a (nh (sF s)) with q | q
      · rw [inN_nI q (by omega)] at c_17; cases c_17
      · exact Or.inl q
    · refine pm_aload_n (i := 0) d179_20 rfl rfl ?_
      refine pm_aload_n (i := 0) d179_21 rfl rfl ?_
      refine pm_getE d179_22 lf_11_237 rfl rfl (f6) ?_
      refine pm_callV (k2 := 144) (As := [_]) d179_25 lk_11_188 ok_144 rfl rfl rfl (Nat.le_of_ble_eq_true rfl) rfl rfl rfl rfl rfl ⟨Nat.le_of_ble_eq_true rfl, Nat.le_of_ble_eq_true rfl⟩ (Nat.le_of_ble_eq_true rfl) ?_
      refine sp_144 hI2 ?_
      first | refine pm_if_neB (tgt := 33) d179_28 rfl (fun c_28 => ?_) (fun c_28 => ?_) | refine pm_if_neN (tgt := 33) d179_28 rfl (by omega) (fun c_28 => ?_) (fun c_28 => ?_) | refine pm_if_ne (tgt := 33) d179_28 rfl (fun c_28 => ?_) (fun c_28 => ?_)
      · obtain ⟨a2, ha2, ea⟩ := inN_of (by omega) (by omega) c_17
        obtain ⟨b2, hb2, eb⟩ := inN_of (by omega) (by omega) c_28
        have ea := (nI_inj (by omega) (by omega)).mp ea
        have eb := (nI_inj (by omega) (by omega)).mp eb
        have ha : a < nh (sF s) := by omega
        have hb9 : b < nh (sF s) := by omega
        rw [if_neg (by omega)] at h47 
        refine pm_aload_n (i := 0) d179_33 rfl rfl ?_
        refine pm_getR d179_34 lf_11_44 rfl rfl ?_
        refine pm_sipush (v := nI 146) d179_37 (by decide) ?_
        refine pm_aload_n (i := 0) d179_40 rfl rfl ?_
        refine pm_getE d179_41 lf_11_231 rfl rfl (f5) ?_
        first | refine pm_imulN d179_44 ?_ | refine pm_imul d179_44 ?_
        refine pm_aload_n (i := 0) d179_45 rfl rfl ?_
        refine pm_getE d179_46 lf_11_237 rfl rfl (f6) ?_
        first | refine pm_iaddN d179_49 ?_ | refine pm_iadd d179_49 ?_
        refine pm_ialdN d179_50 rfl (by decide) (by omega) ?_
        rw [MI_bt hI2 ha hb9]
        refine pm_istore_n (i := 1) (L2 := [(0, _), (1, _)]) d179_51 rfl (by decide) rfl ?_
        refine pm_iload_n (i := 1) d179_52 rfl rfl ?_
        refine pm_if_lt (tgt := 67) d179_53 rfl (fun c_53 => ?_) (fun c_53 => ?_)
        · refine pm_iconst (v := nI 3) d179_67 (by decide) ?_
          refine pm_iret d179_68 rfl rfl ?_
          refine bad A2 3 f1 f2 ?_ (by decide)
          rw [h47]
          cases e9 : btw (sF s) a b with
          | none => rfl
          | some k =>
            rw [e9] at c_53
            have := btw_lt F1 F6 ha e9
            exact absurd c_53 (nI_pos (n := k) (by omega))
        · obtain ⟨k, e9⟩ : ∃ k, btw (sF s) a b = some k := by
            cases e9 : btw (sF s) a b with
            | none => rw [e9] at c_53; exact absurd (by decide) c_53
            | some k => exact ⟨k, rfl⟩
          rw [e9] at h47 ⊢
          rw [show opI (-1) (some k) = nI k from rfl]
          dsimp only at h47
          have hk := btw_lt F1 F6 ha e9
          refine pm_aload_n (i := 0) d179_56 rfl rfl ?_
          refine pm_getE d179_57 lf_11_231 rfl rfl (f5) ?_
          refine pm_aload_n (i := 0) d179_60 rfl rfl ?_
          refine pm_getE d179_61 lf_11_237 rfl rfl (f6) ?_
          first | refine pm_icmp_leN (tgt := 69) d179_64 rfl (by omega) (by omega) (fun c_64 => ?_) (fun c_64 => ?_) | refine pm_icmp_le (tgt := 69) d179_64 rfl (fun c_64 => ?_) (fun c_64 => ?_)
          · rw [if_neg (by omega)] at h47 
            refine pm_aload_n (i := 0) d179_69 rfl rfl ?_
            refine pm_iload_n (i := 1) d179_70 rfl rfl ?_
            refine pm_callV (k2 := 135) (As := [_]) d179_71 lk_11_163 ok_135 rfl rfl rfl (Nat.le_of_ble_eq_true rfl) rfl rfl rfl rfl rfl ⟨Nat.le_of_ble_eq_true rfl, Nat.le_of_ble_eq_true rfl⟩ (Nat.le_of_ble_eq_true rfl) ?_
            refine sp_135 hI2 (by omega) ?_
            first | refine pm_if_eqB (tgt := 79) d179_74 rfl (fun c_74 => ?_) (fun c_74 => ?_) | refine pm_if_eqN (tgt := 79) d179_74 rfl (by omega) (fun c_74 => ?_) (fun c_74 => ?_) | refine pm_if_eq (tgt := 79) d179_74 rfl (fun c_74 => ?_) (fun c_74 => ?_)
            · rw [if_neg (by rw [c_74]; decide)] at h47 
              refine pm_aload_n (i := 0) d179_79 rfl rfl ?_
              refine pm_getR d179_80 lf_11_65 rfl rfl ?_
              refine pm_iload_n (i := 1) d179_83 rfl rfl ?_
              refine pm_zaldN d179_84 rfl (by decide) (by omega) ?_
              rw [f1 19 (by decide), hL.2 k (by omega)]
              first | refine pm_if_eqB (tgt := 90) d179_85 rfl (fun c_85 => ?_) (fun c_85 => ?_) | refine pm_if_eqN (tgt := 90) d179_85 rfl (by omega) (fun c_85 => ?_) (fun c_85 => ?_) | refine pm_if_eq (tgt := 90) d179_85 rfl (fun c_85 => ?_) (fun c_85 => ?_)
              · rw [if_neg (by rw [c_85]; decide)] at h47
                have e30 : A2 0 30 = nI c := by rw [f2 30 (by omega)]; exact hL.1 
                refine pm_aload_n (i := 0) d179_90 rfl rfl ?_
                refine pm_getR d179_91 lf_11_65 rfl rfl ?_
                refine pm_iload_n (i := 1) d179_94 rfl rfl ?_
                refine pm_iconst (v := nI 1) d179_95 (by decide) ?_
                refine pm_zastN d179_96 rfl (by decide) (by omega) rfl ?_
                refine pm_aload_n (i := 0) d179_97 rfl rfl ?_
                refine pm_dup d179_98 rfl ?_
                refine pm_getE (v := nI c) d179_99 lf_11_244 rfl rfl (by rw [mset_other (by decide), e30]) ?_
                refine pm_iconst (v := nI 1) d179_102 (by decide) ?_
                first | refine pm_iaddN d179_103 ?_ | refine pm_iadd d179_103 ?_
                refine pm_putI d179_104 lp_11_244 rfl rfl ?_
                refine pm_iconst (v := nI 0) d179_107 (by decide) ?_
                refine pm_iret d179_108 rfl (by first | rfl | exact nar_b _) ?_
                rw [h47] at h
                refine h _ (fun c2 q1 q2 => by rw [mset_other q1, mset_other q2]; exact f1 c2 q1) (fun j hj => ?_) (fun _ => ⟨?_, ?_, fun i hi9 => ?_⟩)
                · rw [mset_ne (by omega), mset_other (by decide)]; exact f2 j (by omega)
                · rw [mset_ne (by decide), mset_other (by decide)]; exact f4
                · rw [mset_at]
                · rw [mset_other (by decide)]
                  dsimp only
                  have e1 : anyN (fun j => decide (uN l c k j = i)) (c + 1) = (anyN (fun j => decide (l j = i)) c || decide (k = i)) := by
                    show (anyN (fun j => decide (uN l c k j = i)) c || decide (uN l c k c = i)) = _
                    rw [uN_at, anyN_congr (p := fun j => decide (uN l c k j = i)) (q := fun j => decide (l j = i)) (fun j hj => by rw [uN_ne (by omega)])]
                  rw [e1]
                  by_cases e5 : i = k
                  · rw [e5, mset_at, decide_eq_true rfl, Bool.or_true]; rfl
                  · rw [mset_ne e5, decide_eq_false (fun q => e5 q.symm), Bool.or_false, f1 19 (by decide)]
                    exact hL.2 i hi9
              · refine pm_iconst (v := nI 5) d179_88 (by decide) ?_
                refine pm_iret d179_89 rfl (by first | rfl | exact nar_b _) ?_
                refine bad A2 5 f1 f2 ?_ (by decide)
                rw [h47, if_pos c_85]
            · refine pm_iconst (v := nI 4) d179_77 (by decide) ?_
              refine pm_iret d179_78 rfl (by first | rfl | exact nar_b _) ?_
              refine bad A2 4 f1 f2 ?_ (by decide)
              rw [h47, if_pos c_74]
          · refine pm_iconst (v := nI 3) d179_67 (by decide) ?_
            refine pm_iret d179_68 rfl rfl ?_
            refine bad A2 3 f1 f2 ?_ (by decide)
            rw [h47, if_pos (by omega)]
      · refine pm_iconst (v := nI 2) d179_31 (by decide) ?_
        refine pm_iret d179_32 rfl (by first | rfl | exact nar_b _) ?_
        refine bad A2 2 f1 f2 ?_ (by decide)
        rw [h47, if_pos]
        rcases Nat.lt_or_ge b (nh (sF s)) with q | q
        · rw [inN_nI q (by omega)] at c_28; cases c_28
        · exact Or.inr q
  · cases c_4
theorem sp_180 {s : Stt} {x : Txt} {A : Mem} {Q : Int32 → Mem → Prop} (hI : MI s A) (hX : okT x) (hT : MTx x A)
    (h : ∀ A2 : Mem, (∀ q, q ≠ 0 → q ≠ 19 → A2 q = A q) → (∀ j, j < 26 → A2 0 j = A 0 j) → A2 0 29 = nI (rd0 s x).1 → ((rd0 s x).1 = 0 → TM (rd0 s x).2.2.1 (rd0 s x).2.2.2 A2) → Q (if (rd0 s x).1 = 0 then -1004 else nI (rd0 s x).2.1) A2) : pm_P 180 0 [(0, .ref 0)] [] A Q := by
  obtain ⟨F1, F6, -⟩ := hI.1
  have x1 := hX.1
  have lp : ∀ k c p l (A1 : Mem) (v : Int32), k + c = 20 → LOK s c l → p ≤ x.1 → 4 * c ≤ p → (∀ q, q ≠ 0 → q ≠ 19 → A1 q = A q) → (∀ j, j < 26 → A1 0 j = A 0 j) → A1 0 26 = nI p → A1 0 29 = nI 0 → TM c l A1 → rd0 s x = rdt s x k p c l → pm_P 180 37 [(0, .ref 0), (1, .int v)] [] A1 Q := by
    intro k
    induction k with
    | zero =>
      intro c p l A1 v hkc hl9 hpx h4 g1 g2 g3 g4 g5 g6
      have e : rd0 s x = (0, p, c, l) := g6
      have e4 : A1 0 4 = nI x.1 := by rw [g2 4 (by omega)]; exact hT.1
      have hh := h A1 g1 g2 (by rw [e]; exact g4) (fun _ => by rw [e]; exact g5)
      rw [e, if_pos rfl] at hh
      refine pm_aload_n (i := 0) d180_37 rfl rfl ?_
      refine pm_getE d180_38 lf_11_226 rfl rfl (g3) ?_
      refine pm_aload_n (i := 0) d180_41 rfl rfl ?_
      refine pm_getE d180_42 lf_11_185 rfl rfl (e4) ?_
      first | refine pm_icmp_geN (tgt := 73) d180_45 rfl (by omega) (by omega) (fun c_45 => ?_) (fun c_45 => ?_) | refine pm_icmp_ge (tgt := 73) d180_45 rfl (fun c_45 => ?_) (fun c_45 => ?_)
      · refine pm_sipush (v := -1004) d180_73 (by decide) ?_
        refine pm_iret d180_76 rfl (by first | rfl | exact nar_b _) ?_
        exact hh
      · omega
    | succ k ih =>
      intro c p l A1 v hkc hl9 hpx h4 g1 g2 g3 g4 g5 g6
      have e4 : A1 0 4 = nI x.1 := by rw [g2 4 (by omega)]; exact hT.1
      have hI1 : MI s A1 := MI_keep hI (fun j _ _ => g2 j (by omega)) (fun c _ _ => g1 c (by omega) (by omega)) (g1 1 (by decide) (by decide))
      have hT1 : MTx x A1 := MTx_keep hT (g2 4 (by omega)) (g1 3 (by decide) (by decide))
      by_cases hlt : p < x.1
      · simp only [rdt, if_pos hlt] at g6
        have hr5 : (rsn s x p c l).1 ≤ 5 := by
          have := (rdt_ok (x := x) F1 F6 1 p c l hl9).2.2.1
          simp only [rdt, if_pos hlt] at this
          by_cases q : (rsn s x p c l).1 = 0
          · omega
          · rw [if_neg q] at this; exact this
        refine pm_aload_n (i := 0) d180_37 rfl rfl ?_
        refine pm_getE (v := nI p) d180_38 lf_11_226 rfl rfl (g3) ?_
        refine pm_aload_n (i := 0) d180_41 rfl rfl ?_
        refine pm_getE d180_42 lf_11_185 rfl rfl (e4) ?_
        first | refine pm_icmp_geN (tgt := 73) d180_45 rfl (by omega) (by omega) (fun c_45 => ?_) (fun c_45 => ?_) | refine pm_icmp_ge (tgt := 73) d180_45 rfl (fun c_45 => ?_) (fun c_45 => ?_)
        · omega
        · refine pm_aload_n (i := 0) d180_48 rfl rfl ?_
          refine pm_getE (v := nI p) d180_49 lf_11_226 rfl rfl (g3) ?_
          refine pm_istore_n (i := 1) (L2 := [(0, _), (1, _)]) d180_52 rfl (by decide) rfl ?_
          refine pm_aload_n (i := 0) d180_53 rfl rfl ?_
          refine pm_aload_n (i := 0) d180_54 rfl rfl ?_
          refine pm_callV (k2 := 179) (As := []) d180_55 lk_11_250 ok_179 rfl rfl rfl (Nat.le_of_ble_eq_true rfl) rfl rfl rfl rfl rfl ⟨Nat.le_of_ble_eq_true rfl, Nat.le_of_ble_eq_true rfl⟩ (Nat.le_of_ble_eq_true rfl) ?_
          refine sp_179 hI1 hX hT1 g3 (by omega) g5 (by omega) (fun A2 f1 f2 f3 => ?_)
          refine pm_putI d180_58 lp_11_247 rfl rfl ?_
          refine pm_aload_n (i := 0) d180_61 rfl rfl ?_
          refine pm_getE (v := nI (rsn s x p c l).1) d180_62 lf_11_247 rfl rfl (by rw [mset_at]) ?_
          refine pm_if_eqN (tgt := 70) d180_65 rfl (by omega) (fun c_65 => ?_) (fun c_65 => ?_)
          · refine pm_goto (tgt := 37) d180_70 rfl ?_
            rw [if_pos c_65] at g6
            obtain ⟨q1, q2⟩ := f3 c_65
            have r := rsn_ok F1 F6 c_65
            refine ih (c + 1) _ _ _ _ (by omega) (LOK_add F1 F6 hl9 c_65) r.2.2.2.2 (by omega) (fun q q1 q2 => by rw [mset_other q1, f1 q q1 q2]; exact g1 q q1 q2) (fun j hj => by rw [mset_ne (by omega), f2 j (by omega)]; exact g2 j hj) (by rw [mset_ne (by decide)]; exact q1) (by rw [mset_at, c_65]) ⟨by rw [mset_ne (by decide)]; exact q2.1, fun k hk => by rw [mset_other (by decide)]; exact q2.2 k hk⟩ g6
          · refine pm_iload_n (i := 1) d180_68 rfl rfl ?_
            refine pm_iret d180_69 rfl (by first | rfl | exact nar_b _) ?_
            rw [if_neg (by omega)] at g6
            have e1 : (rd0 s x).1 = (rsn s x p c l).1 := by rw [g6]
            have hh := h (mset A2 0 29 (nI (rsn s x p c l).1)) (fun q q1 q2 => by rw [mset_other q1, f1 q q1 q2]; exact g1 q q1 q2) (fun j hj => by rw [mset_ne (by omega), f2 j (by omega)]; exact g2 j hj) (by rw [mset_at, e1]) (fun q => by omega)
            rw [if_neg (by omega), g6] at hh
            exact hh
      · have e : rd0 s x = (0, p, c, l) := by rw [g6]; simp only [rdt]; rw [if_neg hlt]
        have hh := h A1 g1 g2 (by rw [e]; exact g4) (fun _ => by rw [e]; exact g5)
        rw [e, if_pos rfl] at hh
        refine pm_aload_n (i := 0) d180_37 rfl rfl ?_
        refine pm_getE d180_38 lf_11_226 rfl rfl (g3) ?_
        refine pm_aload_n (i := 0) d180_41 rfl rfl ?_
        refine pm_getE d180_42 lf_11_185 rfl rfl (e4) ?_
        first | refine pm_icmp_geN (tgt := 73) d180_45 rfl (by omega) (by omega) (fun c_45 => ?_) (fun c_45 => ?_) | refine pm_icmp_ge (tgt := 73) d180_45 rfl (fun c_45 => ?_) (fun c_45 => ?_)
        · refine pm_sipush (v := -1004) d180_73 (by decide) ?_
          refine pm_iret d180_76 rfl (by first | rfl | exact nar_b _) ?_
          exact hh
        · omega
  have clr : ∀ i, i ≤ 432 → ∀ A1 : Mem, (∀ q, q ≠ 19 → A1 q = A q) → (∀ k, k < i → A1 19 k = nI 0) → pm_P 180 2 [(0, .ref 0), (1, .int (nI i))] [] A1 Q := by
    refine up_ind (fun i hi9 ih A1 g1 g2 => ?_)
    refine pm_iload_n (i := 1) d180_2 rfl rfl ?_
    refine pm_sipush (v := nI 432) d180_3 (by decide) ?_
    first | refine pm_icmp_geN (tgt := 22) d180_6 rfl (by omega) (by omega) (fun c_6 => ?_) (fun c_6 => ?_) | refine pm_icmp_ge (tgt := 22) d180_6 rfl (fun c_6 => ?_) (fun c_6 => ?_)
    · refine pm_aload_n (i := 0) d180_22 rfl rfl ?_
      refine pm_iconst (v := nI 0) d180_23 (by decide) ?_
      refine pm_putI d180_24 lp_11_226 rfl rfl ?_
      refine pm_aload_n (i := 0) d180_27 rfl rfl ?_
      refine pm_iconst (v := nI 0) d180_28 (by decide) ?_
      refine pm_putI d180_29 lp_11_244 rfl rfl ?_
      refine pm_aload_n (i := 0) d180_32 rfl rfl ?_
      refine pm_iconst (v := nI 0) d180_33 (by decide) ?_
      refine pm_putI d180_34 lp_11_247 rfl rfl ?_
      refine lp 20 0 0 (fun _ => 0) _ _ rfl (LOK_0 _ _) (Nat.zero_le _) (Nat.le_refl _) (fun q q1 q2 => by rw [mset_other q1, mset_other q1, mset_other q1]; exact g1 q q2) (fun j hj => by rw [mset_ne (by omega), mset_ne (by omega), mset_ne (by omega), g1 0 (by decide)]) (by simp [mset_get]) (by simp [mset_get]) ⟨by simp [mset_get], fun k hk => ?_⟩ rfl
      rw [mset_other (by decide), mset_other (by decide), mset_other (by decide), g2 k (by omega)]
      rfl
    · refine pm_aload_n (i := 0) d180_9 rfl rfl ?_
      refine pm_getR d180_10 lf_11_65 rfl rfl ?_
      refine pm_iload_n (i := 1) d180_13 rfl rfl ?_
      refine pm_iconst (v := nI 0) d180_14 (by decide) ?_
      refine pm_zastN d180_15 rfl (by decide) (by omega) rfl ?_
      first | refine pm_iincN 1 (L2 := [(0, _), (1, _)]) d180_16 rfl (by decide) rfl ?_ | refine pm_iinc (L2 := [(0, _), (1, _)]) d180_16 rfl rfl (by decide) rfl ?_
      refine pm_goto (tgt := 2) d180_19 rfl ?_
      refine ih c_6 _ (fun q q1 => by rw [mset_other q1]; exact g1 q q1) (fun k hk => ?_)
      by_cases e : k = i
      · rw [e, mset_at]
      · rw [mset_ne e]; exact g2 k (by omega)
  refine pm_iconst (v := nI 0) d180_0 (by decide) ?_
  refine pm_istore_n (i := 1) (L2 := [(0, _), (1, _)]) d180_1 rfl (by decide) rfl ?_
  exact clr 0 (Nat.zero_le _) A (fun _ _ => rfl) (fun k hk => absurd hk (Nat.not_lt_zero k))
theorem i2b_ok : ∀ a, a ≤ 126 → (nI a).toInt8.toInt32 = nI a ∧ vp_nar .byte (nI a) = nI a := by decide +kernel
theorem pd_174 {σ : Sig} {v : Int32} {A : Mem} {Q : Int32 → Mem → Prop} (hC : MW σ A) (h : ∀ A2, MW (aType σ v).2 A2 → Q (aType σ v).1 A2) : pm_P 174 0 [(0, .ref 0), (1, .int v)] [] A Q := by
  obtain ⟨s, H, x⟩ := σ
  obtain ⟨hI, hL, hH, hT, hX⟩ := id hC
  dsimp only at hI hL hH hT hX
  have x1 := hX.1
  have et := hT.1
  unfold aType at h
  dsimp only at h
  refine pm_iload_n (i := 1) d174_0 rfl rfl ?_
  refine pm_bipush (v := nI 32) d174_1 (by decide) ?_
  refine pm_bipush (v := nI 126) d174_3 (by decide) ?_
  refine pm_callS (k2 := 113) (As := [_, _, _]) d174_5 lk_11_130 ok_113 rfl rfl rfl (Nat.le_of_ble_eq_true rfl) rfl rfl ⟨Nat.le_of_ble_eq_true rfl, Nat.le_of_ble_eq_true rfl⟩ (Nat.le_of_ble_eq_true rfl) ?_
  refine sp_113 ?_
  rw [wi_def]
  first | refine pm_if_neB (tgt := 15) d174_8 rfl (fun c_8 => ?_) (fun c_8 => ?_) | refine pm_if_neN (tgt := 15) d174_8 rfl (by omega) (fun c_8 => ?_) (fun c_8 => ?_) | refine pm_if_ne (tgt := 15) d174_8 rfl (fun c_8 => ?_) (fun c_8 => ?_)
  · obtain ⟨a, ha1, ha2, rfl⟩ := wi_of (by decide) (by decide) c_8
    rw [if_pos c_8, nI_clamp (by omega)] at h 
    refine pm_aload_n (i := 0) d174_15 rfl rfl ?_
    refine pm_getE (v := nI x.1) d174_16 lf_11_185 rfl rfl (et) ?_
    refine pm_bipush (v := nI 80) d174_19 (by decide) ?_
    first | refine pm_icmp_neN (tgt := 28) d174_21 rfl (by omega) (by omega) (fun c_21 => ?_) (fun c_21 => ?_) | refine pm_icmp_ne (tgt := 28) d174_21 rfl (fun c_21 => ?_) (fun c_21 => ?_)
    · rw [if_neg (by omega)] at h 
      refine pm_aload_n (i := 0) d174_28 rfl rfl ?_
      refine pm_getR d174_29 lf_11_16 rfl rfl ?_
      refine pm_aload_n (i := 0) d174_32 rfl rfl ?_
      refine pm_getE (v := nI x.1) d174_33 lf_11_185 rfl rfl (et) ?_
      refine pm_iload_n (i := 1) d174_36 rfl rfl ?_
      refine pm_i2b (v := nI a) d174_37 (i2b_ok a ha2).1 ?_
      refine pm_bastN d174_38 rfl (by decide) (by omega) (i2b_ok a ha2).2 ?_
      refine pm_aload_n (i := 0) d174_39 rfl rfl ?_
      refine pm_dup d174_40 rfl ?_
      refine pm_getE (v := nI x.1) d174_41 lf_11_185 rfl rfl (by rw [mset_other (by decide), et]) ?_
      refine pm_iconst (v := nI 1) d174_44 (by decide) ?_
      first | refine pm_iaddN d174_45 ?_ | refine pm_iadd d174_45 ?_
      refine pm_putI d174_46 lp_11_185 rfl rfl ?_
      refine pm_aload_n (i := 0) d174_49 rfl rfl ?_
      refine pm_getE (v := nI (x.1 + 1)) d174_50 lf_11_185 rfl rfl (by rw [mset_at]) ?_
      refine pm_iret d174_53 rfl (by first | rfl | exact nar_b _) ?_
      refine h _ (MW_mk hI.1 (MB_keep hI.2.1 (fun j _ _ => by rw [mset_ne (by omega), mset_other (by decide)]) (fun c _ _ => by rw [mset_other (by omega), mset_other (by omega)])) (SM_keep hI.2.2 (by rw [mset_other (by decide), mset_other (by decide)])) (LNm_keep hL (by rw [mset_other (by decide), mset_other (by decide)])) (MHi_keep hH (by rw [mset_ne (by decide), mset_other (by decide)]) (by rw [mset_other (by decide), mset_other (by decide)])) ⟨by rw [mset_at], fun i hi9 => ?_⟩ ⟨by show x.1 + 1 ≤ 80; omega, fun i hi9 => ?_⟩)
      · rw [mset_other (by decide)]
        dsimp only at hi9 ⊢
        by_cases e : i = x.1
        · rw [e, mset_at, uN_at]
        · rw [mset_ne e, uN_ne e]
          exact hT.2 i (by omega)
      · dsimp only at hi9 ⊢
        by_cases e : i = x.1
        · rw [e, uN_at]; omega
        · rw [uN_ne e]
          exact hX.2 i (by omega)
    · rw [if_pos (by omega)] at h 
      refine pm_sipush (v := -1003) d174_24 (by decide) ?_
      refine pm_iret d174_27 rfl (by first | rfl | exact nar_b _) ?_
      exact h A hC
  · rw [if_neg (by rw [c_8]; decide)] at h 
    refine pm_sipush (v := -1001) d174_11 (by decide) ?_
    refine pm_iret d174_14 rfl (by first | rfl | exact nar_b _) ?_
    exact h A hC
theorem pd_175 {σ : Sig} {A : Mem} {Q : Int32 → Mem → Prop} (hC : MW σ A) (h : ∀ A2, MW (aClear σ).2 A2 → Q (aClear σ).1 A2) : pm_P 175 0 [(0, .ref 0)] [] A Q := by
  obtain ⟨s, H, x⟩ := σ
  obtain ⟨hI, hL, hH, hT, hX⟩ := id hC
  dsimp only at hI hL hH hT hX
  unfold aClear at h
  dsimp only at h
  refine pm_aload_n (i := 0) d175_0 rfl rfl ?_
  refine pm_getE d175_1 lf_11_185 rfl rfl (hT.1) ?_
  refine pm_istore_n (i := 1) (L2 := [(0, _), (1, _)]) d175_4 rfl (by decide) rfl ?_
  refine pm_aload_n (i := 0) d175_5 rfl rfl ?_
  refine pm_iconst (v := nI 0) d175_6 (by decide) ?_
  refine pm_putI d175_7 lp_11_185 rfl rfl ?_
  refine pm_iload_n (i := 1) d175_10 rfl rfl ?_
  refine pm_iret d175_11 rfl (by first | rfl | exact nar_b _) ?_
  exact h _ (MW_mk hI.1 (MB_keep hI.2.1 (fun j _ _ => by rw [mset_ne (by omega)]) (fun c _ _ => by rw [mset_other (by omega)])) (SM_keep hI.2.2 (by rw [mset_other (by decide)])) (LNm_keep hL (by rw [mset_other (by decide)])) (MHi_keep hH (by rw [mset_ne (by decide)]) (by rw [mset_other (by decide)])) ⟨by rw [mset_at], fun i hi9 => absurd hi9 (Nat.not_lt_zero i)⟩ ⟨Nat.zero_le _, fun i hi9 => absurd hi9 (Nat.not_lt_zero i)⟩)
theorem pd_181 {σ : Sig} {v : Int32} {A : Mem} {Q : Int32 → Mem → Prop} (hC : MW σ A) (h : ∀ A2, MW σ A2 → Q (aFault σ v) A2) : pm_P 181 0 [(0, .ref 0), (1, .int v)] [] A Q := by
  obtain ⟨s, H, x⟩ := σ
  obtain ⟨hI, hL, hH, hT, hX⟩ := id hC
  dsimp only at hI hL hH hT hX
  unfold aFault at h
  dsimp only at h
  have hr := rdt_ok (x := x) hI.1.1 hI.1.2.1 20 0 0 (fun _ => 0) (LOK_0 s _)
  have hr5 : (rd0 s x).1 ≤ 5 := hr.2.2.1
  have hpl : (rd0 s x).2.1 ≤ 80 := Nat.le_trans (hr.2.2.2 (Nat.zero_le _)) hX.1
  refine pm_iload_n (i := 1) d181_0 rfl rfl ?_
  refine pm_iconst (v := nI 0) d181_1 (by decide) ?_
  refine pm_iconst (v := nI 1) d181_2 (by decide) ?_
  refine pm_callS (k2 := 113) (As := [_, _, _]) d181_3 lk_11_130 ok_113 rfl rfl rfl (Nat.le_of_ble_eq_true rfl) rfl rfl ⟨Nat.le_of_ble_eq_true rfl, Nat.le_of_ble_eq_true rfl⟩ (Nat.le_of_ble_eq_true rfl) ?_
  refine sp_113 ?_
  rw [wi_def]
  first | refine pm_if_neB (tgt := 13) d181_6 rfl (fun c_6 => ?_) (fun c_6 => ?_) | refine pm_if_neN (tgt := 13) d181_6 rfl (by omega) (fun c_6 => ?_) (fun c_6 => ?_) | refine pm_if_ne (tgt := 13) d181_6 rfl (fun c_6 => ?_) (fun c_6 => ?_)
  · rw [if_pos c_6] at h 
    refine pm_aload_n (i := 0) d181_13 rfl rfl ?_
    refine pm_callV (k2 := 180) (As := []) d181_14 lk_11_253 ok_180 rfl rfl rfl (Nat.le_of_ble_eq_true rfl) rfl rfl rfl rfl rfl ⟨Nat.le_of_ble_eq_true rfl, Nat.le_of_ble_eq_true rfl⟩ (Nat.le_of_ble_eq_true rfl) ?_
    refine sp_180 hI hX hT (fun A2 f1 f2 f3 f4 => ?_)
    have hh := h A2 (MW_keep hC (fun j hj => f2 j (by omega)) (fun c _ hc => f1 c (by omega) (by omega)))
    refine pm_istore_n (i := 2) (L2 := [(0, _), (1, _), (2, _)]) d181_17 rfl (by decide) rfl ?_
    refine pm_iload_n (i := 2) d181_18 rfl rfl ?_
    refine pm_if_lt (tgt := 26) d181_19 rfl (fun c_19 => ?_) (fun c_19 => ?_)
    · have e0 : (rd0 s x).1 = 0 := by
        by_cases e : (rd0 s x).1 = 0
        · exact e
        · rw [if_neg e] at c_19
          exact absurd c_19 (nI_pos (by omega))
      rw [if_pos e0] at hh ⊢ 
      refine pm_iload_n (i := 2) d181_26 rfl rfl ?_
      refine pm_goto (tgt := 34) d181_27 rfl ?_
      refine pm_iret d181_34 rfl (by first | rfl | exact nar_b _) ?_
      exact hh
    · have e0 : ¬ (rd0 s x).1 = 0 := fun e => c_19 (by rw [if_pos e]; decide)
      rw [if_neg e0] at hh ⊢ 
      refine pm_iload_n (i := 1) d181_22 rfl rfl ?_
      refine pm_if_ne (tgt := 30) d181_23 rfl (fun c_23 => ?_) (fun c_23 => ?_)
      · refine pm_aload_n (i := 0) d181_30 rfl rfl ?_
        refine pm_getE d181_31 lf_11_247 rfl rfl (f3) ?_
        refine pm_iret d181_34 rfl (by first | rfl | exact nar_b _) ?_
        rw [if_neg (show ¬ v = nI 0 from c_23)] at hh
        exact hh
      · refine pm_iload_n (i := 2) d181_26 rfl rfl ?_
        refine pm_goto (tgt := 34) d181_27 rfl ?_
        refine pm_iret d181_34 rfl (by first | rfl | exact nar_b _) ?_
        rw [if_pos (show v = nI 0 from c_23)] at hh
        exact hh
  · rw [if_neg (by rw [c_6]; decide)] at h 
    refine pm_sipush (v := -1001) d181_9 (by decide) ?_
    refine pm_iret d181_12 rfl (by first | rfl | exact nar_b _) ?_
    exact h A hC
theorem pd_182 {σ : Sig} {A : Mem} {Q : Int32 → Mem → Prop} (hC : MW σ A) (h : ∀ A2, MW (aLoseAll σ).2 A2 → Q (aLoseAll σ).1 A2) : pm_P 182 0 [(0, .ref 0)] [] A Q := by
  obtain ⟨s, H, x⟩ := σ
  obtain ⟨hI, hL, hH, hT, hX⟩ := id hC
  dsimp only at hI hL hH hT hX
  have hb := MI_bd hI
  unfold aLoseAll at h
  dsimp only at h
  have hr := rdt_ok (x := x) hI.1.1 hI.1.2.1 20 0 0 (fun _ => 0) (LOK_0 s _)
  have hr5 : (rd0 s x).1 ≤ 5 := hr.2.2.1
  have hpl : (rd0 s x).2.1 ≤ 80 := Nat.le_trans (hr.2.2.2 (Nat.zero_le _)) hX.1
  have hl9 : LOK s (rd0 s x).2.2.1 (rd0 s x).2.2.2 := hr.1
  have hc20 : (rd0 s x).2.2.1 ≤ 20 := by have := hr.2.1; unfold rd0; omega
  have hcl := cnt_le (sM s) 432
  obtain ⟨z, hz⟩ : ∃ z, z = rd0 s x := ⟨_, rfl⟩
  rw [← hz] at h hr5 hl9 hc20 hpl
  have lp : z.1 = 0 → cnt (sM s) 432 + z.2.2.1 ≤ 40 → ∀ A0 : Mem, MI s A0 → LNm s (sR s) A0 → MHi (hpush H s) A0 → MTx x A0 → TM z.2.2.1 z.2.2.2 A0 → ∀ i, i ≤ ns (sF s) → ∀ A1 : Mem, (∀ c, c ≠ 1 → A1 c = A0 c) → (∀ j, j < 5 → A1 1 j = A0 1 j) → (∀ k, k < 432 → A1 1 (5 + k) = b2i (sM s k || (decide (k < i) && anyN (fun j => decide (z.2.2.2 j = k)) z.2.2.1))) → pm_P 182 36 [(0, .ref 0), (1, .int (nI i))] [] A1 Q := by
    intro hz0 hz40 A0 q1 q2 q3 q4 q5
    refine up_ind (fun i hi9 ih A1 g1 g0 g2 => ?_)
    have e7 : A1 0 7 = nI (ns (sF s)) := by rw [g1 0 (by decide)]; exact MI_ns q1
    have e30 : A1 0 30 = nI z.2.2.1 := by rw [g1 0 (by decide)]; exact q5.1
    by_cases hlt : i < ns (sF s)
    · have k72 : ∀ b : Int32, b = b2i (sM s i || anyN (fun j => decide (z.2.2.2 j = i)) z.2.2.1) → pm_P 182 36 [(0, .ref 0), (1, .int (nI (i + 1)))] [] (mset A1 1 (5 + i) b) Q := by
        intro b hb9
        refine ih hlt _ (fun c hc => by rw [mset_other hc]; exact g1 c hc) (fun j hj => by rw [mset_ne (by omega)]; exact g0 j hj) (fun k hk => ?_)
        by_cases e : k = i
        · rw [e, mset_at, hb9, decide_eq_true (Nat.lt_succ_self i), Bool.true_and]
        · rw [mset_ne (by omega), g2 k hk]
          by_cases q : k < i
          · rw [decide_eq_true q, decide_eq_true (show k < i + 1 by omega)]
          · rw [decide_eq_false q, decide_eq_false (show ¬ k < i + 1 by omega)]
      refine pm_iload_n (i := 1) d182_36 rfl rfl ?_
      refine pm_aload_n (i := 0) d182_37 rfl rfl ?_
      refine pm_getE d182_38 lf_11_90 rfl rfl (e7) ?_
      first | refine pm_icmp_geN (tgt := 79) d182_41 rfl (by omega) (by omega) (fun c_41 => ?_) (fun c_41 => ?_) | refine pm_icmp_ge (tgt := 79) d182_41 rfl (fun c_41 => ?_) (fun c_41 => ?_)
      · omega
      · refine pm_aload_n (i := 0) d182_44 rfl rfl ?_
        refine pm_getR d182_45 lf_11_7 rfl rfl ?_
        refine pm_iconst (v := nI 5) d182_48 (by decide) ?_
        refine pm_iload_n (i := 1) d182_49 rfl rfl ?_
        first | refine pm_iaddN d182_50 ?_ | refine pm_iadd d182_50 ?_
        refine pm_aload_n (i := 0) d182_51 rfl rfl ?_
        refine pm_getR d182_52 lf_11_65 rfl rfl ?_
        refine pm_iload_n (i := 1) d182_55 rfl rfl ?_
        refine pm_zaldN d182_56 rfl (by decide) (by omega) ?_
        rw [g1 19 (by decide), q5.2 i (by omega)]
        first | refine pm_if_eqB (tgt := 64) d182_57 rfl (fun c_57 => ?_) (fun c_57 => ?_) | refine pm_if_eqN (tgt := 64) d182_57 rfl (by omega) (fun c_57 => ?_) (fun c_57 => ?_) | refine pm_if_eq (tgt := 64) d182_57 rfl (fun c_57 => ?_) (fun c_57 => ?_)
        · refine pm_aload_n (i := 0) d182_64 rfl rfl ?_
          refine pm_getR d182_65 lf_11_7 rfl rfl ?_
          refine pm_iconst (v := nI 5) d182_68 (by decide) ?_
          refine pm_iload_n (i := 1) d182_69 rfl rfl ?_
          first | refine pm_iaddN d182_70 ?_ | refine pm_iadd d182_70 ?_
          refine pm_ialdN d182_71 rfl (by decide) (by omega) ?_
          rw [g2 i (by omega), decide_eq_false (Nat.lt_irrefl i), Bool.false_and, Bool.or_false]
          refine pm_iastN d182_72 rfl (by decide) (by omega) ?_
          first | refine pm_iincN 1 (L2 := [(0, _), (1, _)]) d182_73 rfl (by decide) rfl ?_ | refine pm_iinc (L2 := [(0, _), (1, _)]) d182_73 rfl rfl (by decide) rfl ?_
          refine pm_goto (tgt := 36) d182_76 rfl ?_
          exact k72 _ (by rw [c_57, Bool.or_false])
        · refine pm_iconst (v := nI 1) d182_60 (by decide) ?_
          refine pm_goto (tgt := 72) d182_61 rfl ?_
          refine pm_iastN d182_72 rfl (by decide) (by omega) ?_
          first | refine pm_iincN 1 (L2 := [(0, _), (1, _)]) d182_73 rfl (by decide) rfl ?_ | refine pm_iinc (L2 := [(0, _), (1, _)]) d182_73 rfl rfl (by decide) rfl ?_
          refine pm_goto (tgt := 36) d182_76 rfl ?_
          exact k72 _ (by rw [c_57, Bool.or_true]; rfl)
    · have ei : i = ns (sF s) := by omega
      subst ei
      refine pm_iload_n (i := 1) d182_36 rfl rfl ?_
      refine pm_aload_n (i := 0) d182_37 rfl rfl ?_
      refine pm_getE d182_38 lf_11_90 rfl rfl (e7) ?_
      first | refine pm_icmp_geN (tgt := 79) d182_41 rfl (by omega) (by omega) (fun c_41 => ?_) (fun c_41 => ?_) | refine pm_icmp_ge (tgt := 79) d182_41 rfl (fun c_41 => ?_) (fun c_41 => ?_)
      · refine pm_aload_n (i := 0) d182_79 rfl rfl ?_
        refine pm_getE d182_80 lf_11_244 rfl rfl (e30) ?_
        refine pm_iret d182_83 rfl (by first | rfl | exact nar_b _) ?_
        rw [if_pos hz0, if_neg (by omega)] at h
        refine h A1 (MW_mk (sAdd_ok hI.1 hl9 hz40 hb.2.1) (MB_keep q1.2.1 (fun j _ _ => by rw [g1 0 (by decide)]) (fun c _ _ => g1 c (by omega))) ⟨?_, ?_, ?_, ?_, ?_, fun k hk => ?_⟩ (LNm_keep q2 (g1 14 (by decide))) (MHi_keep q3 (by rw [g1 0 (by decide)]) (g1 2 (by decide))) (MTx_keep q4 (by rw [g1 0 (by decide)]) (g1 3 (by decide))) hX)
        · rw [g0 0 (by omega)]; exact q1.2.2.1
        · rw [g0 _ (by omega)]; exact q1.2.2.2.1
        · rw [g0 _ (by omega)]; exact q1.2.2.2.2.1
        · rw [g0 _ (by omega)]; exact q1.2.2.2.2.2.1
        · rw [g0 _ (by omega)]; exact q1.2.2.2.2.2.2.1
        · rw [Nat.zero_add, g2 k hk]
          show b2i (sM s k || (decide (k < ns (sF s)) && anyN (fun j => decide (z.2.2.2 j = k)) z.2.2.1)) = b2i (sM s k || anyN (fun j => decide (z.2.2.2 j = k)) z.2.2.1)
          by_cases q : k < ns (sF s)
          · rw [decide_eq_true q, Bool.true_and]
          · have e : anyN (fun j => decide (z.2.2.2 j = k)) z.2.2.1 = false := by
              cases e : anyN (fun j => decide (z.2.2.2 j = k)) z.2.2.1 with
              | false => rfl
              | true =>
                obtain ⟨j, hj, hq⟩ := anyN_ex e
                have := (hl9 j hj).1
                rw [of_decide_eq_true hq] at this
                exact absurd this q
            rw [e, Bool.and_false]
      · omega
  refine pm_aload_n (i := 0) d182_0 rfl rfl ?_
  refine pm_callV (k2 := 180) (As := []) d182_1 lk_11_253 ok_180 rfl rfl rfl (Nat.le_of_ble_eq_true rfl) rfl rfl rfl rfl rfl ⟨Nat.le_of_ble_eq_true rfl, Nat.le_of_ble_eq_true rfl⟩ (Nat.le_of_ble_eq_true rfl) ?_
  refine sp_180 hI hX hT (fun A2 f1 f2 f3 f4 => ?_)
  rw [← hz] at f3 f4 ⊢
  have hC2 : MW (s, H, x) A2 := MW_keep hC (fun j hj => f2 j (by omega)) (fun c _ hc => f1 c (by omega) (by omega))
  have hI2 : MI s A2 := hC2.1
  refine pm_if_lt (tgt := 11) d182_4 rfl (fun c_4 => ?_) (fun c_4 => ?_)
  · have e0 : z.1 = 0 := by
      by_cases e : z.1 = 0
      · exact e
      · rw [if_neg e] at c_4
        exact absurd c_4 (nI_pos (by omega))
    have f5 := f4 e0 
    refine pm_aload_n (i := 0) d182_11 rfl rfl ?_
    refine pm_iconst (v := nI 2) d182_12 (by decide) ?_
    refine pm_callV (k2 := 140) (As := [_]) d182_13 lk_11_175 ok_140 rfl rfl rfl (Nat.le_of_ble_eq_true rfl) rfl rfl rfl rfl rfl ⟨Nat.le_of_ble_eq_true rfl, Nat.le_of_ble_eq_true rfl⟩ (Nat.le_of_ble_eq_true rfl) ?_
    refine sp_140_2 hI2 ?_
    refine pm_aload_n (i := 0) d182_16 rfl rfl ?_
    refine pm_getE d182_17 lf_11_244 rfl rfl (f5.1) ?_
    first | refine pm_iaddN d182_20 ?_ | refine pm_iadd d182_20 ?_
    refine pm_bipush (v := nI 40) d182_21 (by decide) ?_
    first | refine pm_icmp_leN (tgt := 30) d182_23 rfl (by omega) (by omega) (fun c_23 => ?_) (fun c_23 => ?_) | refine pm_icmp_le (tgt := 30) d182_23 rfl (fun c_23 => ?_) (fun c_23 => ?_)
    · refine pm_aload_n (i := 0) d182_30 rfl rfl ?_
      refine pm_callVv (k2 := 115) (As := []) d182_31 lk_11_134 ok_115 rfl rfl rfl (Nat.le_of_ble_eq_true rfl) rfl rfl rfl rfl rfl ⟨Nat.le_of_ble_eq_true rfl, Nat.le_of_ble_eq_true rfl⟩ (Nat.le_of_ble_eq_true rfl) ?_
      refine sp_115 hC2.2.2.1 hI2.2.2 hI2.1 (fun A3 g1 g2 g3 => ?_)
      have hI3 : MI s A3 := MI_keep hI2 (fun j _ _ => g2 j (by omega)) (fun c _ _ => g1 c (by omega) (by omega)) (g1 1 (by decide) (by decide))
      refine pm_iconst (v := nI 0) d182_34 (by decide) ?_
      refine pm_istore_n (i := 1) (L2 := [(0, _), (1, _)]) d182_35 rfl (by decide) rfl ?_
      refine lp e0 (by omega) A3 hI3 (LNm_keep hC2.2.1 (g1 14 (by decide) (by decide))) g3 (MTx_keep hC2.2.2.2.1 (g2 4 (by decide)) (g1 3 (by decide) (by decide))) ⟨by rw [g2 30 (by decide)]; exact f5.1, fun k hk => by rw [g1 19 (by decide) (by decide)]; exact f5.2 k hk⟩ 0 (Nat.zero_le _) A3 (fun _ _ => rfl) (fun _ _ => rfl) (fun k hk => ?_)
      rw [MI_ms hI3 hk, decide_eq_false (Nat.not_lt_zero k), Bool.false_and, Bool.or_false]
    · rw [if_pos e0, if_pos c_23] at h 
      refine pm_sipush (v := -1003) d182_26 (by decide) ?_
      refine pm_iret d182_29 rfl (by first | rfl | exact nar_b _) ?_
      exact h A2 hC2
  · rw [if_neg (show ¬ z.1 = 0 from fun e => c_4 (by rw [if_pos e]; decide))] at h 
    refine pm_sipush (v := -1002) d182_7 (by decide) ?_
    refine pm_iret d182_10 rfl (by first | rfl | exact nar_b _) ?_
    exact h A2 hC2
