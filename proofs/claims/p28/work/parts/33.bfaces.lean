/-! HOW THE CLASS BUILDS ITS FACES, and the whole ball -/
/-- hub h and its links i, j span a face of which h is the lowest hub -/
def vF (f h i j : Nat) : Bool := Nat.ble h (lh f (h * 6 + i)) && (btw f (lh f (h * 6 + i)) (lh f (h * 6 + j))).isSome
def cI (f h i j : Nat) : Nat := cnt (fun k => Nat.blt i k && vF f h i k) j
def cH (f h : Nat) : Nat → Nat
  | 0 => 0
  | i + 1 => cH f h i + cI f h i (dg f h)
theorem tk_fc : allF (fun f => Nat.beq (ff f 0) 0 && (Nat.beq (ff f (nh f)) (nf f) && allN (nh f) (fun h => Nat.beq (ff f (h + 1)) (ff f h + cH f h (dg f h)) && allN (dg f h) (fun i => allN (dg f h) (fun j => Nat.ble j i || (!(vF f h i j) || (Nat.blt (ff f h + cH f h i + cI f h i j) (nf f) && (Nat.beq (co f (3 * (ff f h + cH f h i + cI f h i j))) h && (Nat.beq (co f (3 * (ff f h + cH f h i + cI f h i j) + 1)) (lh f (h * 6 + i)) && (Nat.beq (co f (3 * (ff f h + cH f h i + cI f h i j) + 2)) (lh f (h * 6 + j)) && (Nat.beq (sd f (3 * (ff f h + cH f h i + cI f h i j))) (lk f (h * 6 + i)) && (Nat.beq (sd f (3 * (ff f h + cH f h i + cI f h i j) + 1)) (lk f (h * 6 + j)) && Nat.beq (sd f (3 * (ff f h + cH f h i + cI f h i j) + 2)) ((btw f (lh f (h * 6 + i)) (lh f (h * 6 + j))).getD 999))))))))))))) = true := by decide +kernel
theorem bd_fc {f : Nat} (h1 : 1 ≤ f) (h6 : f ≤ 6) : ff f 0 = 0 ∧ ff f (nh f) = nf f ∧ ∀ h, h < nh f → ff f (h + 1) = ff f h + cH f h (dg f h) ∧ ∀ i j, i < j → j < dg f h → vF f h i j = true → ∀ c, c = ff f h + cH f h i + cI f h i j → c < nf f ∧ co f (3 * c) = h ∧ co f (3 * c + 1) = lh f (h * 6 + i) ∧ co f (3 * c + 2) = lh f (h * 6 + j) ∧ sd f (3 * c) = lk f (h * 6 + i) ∧ sd f (3 * c + 1) = lk f (h * 6 + j) ∧ sd f (3 * c + 2) = (btw f (lh f (h * 6 + i)) (lh f (h * 6 + j))).getD 999 := by
  have h0 := allF_of tk_fc h1 h6
  simp only [Bool.and_eq_true, Nat.beq_eq] at h0
  refine ⟨h0.1, h0.2.1, fun h hh => ?_⟩
  have h2 := allN_of h0.2.2 hh
  simp only [Bool.and_eq_true, Nat.beq_eq] at h2
  refine ⟨h2.1, fun i j hij hj hv c hc => ?_⟩
  have h3 := allN_of (allN_of h2.2 (show i < dg f h by omega)) hj
  rw [← hc] at h3
  simp only [Bool.or_eq_true, Bool.and_eq_true, Nat.ble_eq, Nat.beq_eq, Nat.blt_eq, hv, Bool.not_true, Bool.false_eq_true, false_or] at h3
  rcases h3 with h3 | h3
  · omega
  · exact h3
def FB (f c : Nat) (A : Mem) : Prop := A 18 2 = nI c ∧ ∀ i, i < 3 * c → A 19 i = nI (co f i) ∧ A 20 i = nI (sd f i)
theorem FB_add {f c : Nat} {A : Mem} (h : FB f c A) : FB f (c + 1) (mset (mset (mset (mset (mset (mset (mset A 19 (3 * c) (nI (co f (3 * c)))) 19 (3 * c + 1) (nI (co f (3 * c + 1)))) 19 (3 * c + 2) (nI (co f (3 * c + 2)))) 20 (3 * c) (nI (sd f (3 * c)))) 20 (3 * c + 1) (nI (sd f (3 * c + 1)))) 20 (3 * c + 2) (nI (sd f (3 * c + 2)))) 18 2 (nI (c + 1))) := by
  refine ⟨by simp [mset_get], fun i hi9 => ?_⟩
  rcases Nat.lt_or_ge i (3 * c) with g | g
  · have := h.2 i g
    have n1 : ¬ i = 3 * c := by omega
    have n2 : ¬ i = 3 * c + 1 := by omega
    have n3 : ¬ i = 3 * c + 2 := by omega
    simp only [mset_get]
    simp [n1, n2, n3, this]
  · rcases (show i = 3 * c ∨ i = 3 * c + 1 ∨ i = 3 * c + 2 by omega) with e | e | e <;> rw [e] <;> simp [mset_get]
theorem sp_2 {f h i j c : Nat} {A : Mem} {Q : Int32 → Mem → Prop} (h1 : 1 ≤ f) (h6 : f ≤ 6) (hS : BS f A) (hh : h < nh f) (hij : i < j) (hj : j < dg f h) (hF : FB f c A) (hc : c = ff f h + cH f h i + cI f h i j) (h0 : vF f h i j = false → Q 0 A)
    (hq : vF f h i j = true → ∀ A2 : Mem, (∀ c, c < 18 ∨ 20 < c → A2 c = A c) → FB f (c + 1) A2 → Q 0 A2) : pm_P 2 0 [(0, .ref 18), (1, .ref 5), (2, .int (nI h)), (3, .int (nI (h * 6 + i))), (4, .int (nI (h * 6 + j)))] [] A Q := by
  have hb := bd_n h1 h6
  have hd := bd_a h1 h6 hh
  obtain ⟨y1, y2⟩ := hd.2 i (by omega)
  obtain ⟨z1, z2⟩ := hd.2 j hj
  obtain ⟨e1, e2⟩ := hS.2.2.2 h i hh (by omega)
  obtain ⟨e3, e4⟩ := hS.2.2.2 h j hh hj
  have hFa := FB_add hF
  have q18 := hF.1
  cases hv : vF f h i j with
  | false =>
    have hz := h0 hv
    refine pm_aload_n (i := 1) d2_0 rfl rfl ?_
    refine pm_getR d2_1 lf_0_34 rfl rfl ?_
    refine pm_iload_n (i := 3) d2_4 rfl rfl ?_
    refine pm_ialdN d2_5 rfl (by decide) (by omega) ?_
    rw [e1]
    refine pm_istore (L2 := [(0, _), (1, _), (2, _), (3, _), (4, _), (5, _)]) d2_6 (by decide) rfl ?_
    refine pm_aload_n (i := 1) d2_8 rfl rfl ?_
    refine pm_getR d2_9 lf_0_34 rfl rfl ?_
    refine pm_iload d2_12 rfl ?_
    refine pm_ialdN d2_14 rfl (by decide) (by omega) ?_
    rw [e3]
    refine pm_istore (L2 := [(0, _), (1, _), (2, _), (3, _), (4, _), (5, _), (6, _)]) d2_15 (by decide) rfl ?_
    refine pm_aload_n (i := 1) d2_17 rfl rfl ?_
    refine pm_iload d2_18 rfl ?_
    refine pm_iload d2_20 rfl ?_
    refine pm_callV (k2 := 48) (As := [_, _]) d2_22 lk_0_37 ok_48 rfl rfl rfl (Nat.le_of_ble_eq_true rfl) rfl rfl rfl rfl rfl ⟨Nat.le_of_ble_eq_true rfl, Nat.le_of_ble_eq_true rfl⟩ (Nat.le_of_ble_eq_true rfl) ?_
    refine sp_48 h1 h6 hS y1 z1 ?_
    rw [btw_opI]
    refine pm_istore (L2 := [(0, _), (1, _), (2, _), (3, _), (4, _), (5, _), (6, _), (7, _)]) d2_25 (by decide) rfl ?_
    refine pm_iload d2_27 rfl ?_
    refine pm_iload_n (i := 2) d2_29 rfl rfl ?_
    first | refine pm_icmp_ltN (tgt := 49) d2_30 rfl (by omega) (by omega) (fun c_30 => ?_) (fun c_30 => ?_) | refine pm_icmp_lt (tgt := 49) d2_30 rfl (fun c_30 => ?_) (fun c_30 => ?_)
    · refine pm_vret d2_49 rfl ?_
      exact hz
    · refine pm_iload d2_33 rfl ?_
      refine pm_iconst (v := -1) d2_35 (by decide) ?_
      refine pm_icmp_eq (tgt := 49) d2_36 rfl (fun c_36 => ?_) (fun c_36 => ?_)
      · refine pm_vret d2_49 rfl ?_
        exact hz
      · exfalso
        unfold vF at hv
        rw [show Nat.ble h (lh f (h * 6 + i)) = true by rw [Nat.ble_eq]; omega, Bool.true_and] at hv
        cases e : btw f (lh f (h * 6 + i)) (lh f (h * 6 + j)) with
        | none => rw [e] at c_36; exact c_36 rfl
        | some k => rw [e] at hv; cases hv
  | true =>
    obtain ⟨x1, x2, x3, x4, x5, x6, x7⟩ := ((bd_fc h1 h6).2.2 h hh).2 i j hij hj hv c hc
    have hv2 := hv
    unfold vF at hv2
    simp only [Bool.and_eq_true, Nat.ble_eq] at hv2
    obtain ⟨k, hk⟩ := Option.isSome_iff_exists.mp hv2.2
    have hkl := btw_lt h1 h6 y1 hk
    rw [hk] at x7
    have x7 : sd f (3 * c + 2) = k := x7
    rw [x2, x3, x4, x5, x6, x7] at hFa
    have hg := hq hv
    refine pm_aload_n (i := 1) d2_0 rfl rfl ?_
    refine pm_getR d2_1 lf_0_34 rfl rfl ?_
    refine pm_iload_n (i := 3) d2_4 rfl rfl ?_
    refine pm_ialdN d2_5 rfl (by decide) (by omega) ?_
    rw [e1]
    refine pm_istore (L2 := [(0, _), (1, _), (2, _), (3, _), (4, _), (5, _)]) d2_6 (by decide) rfl ?_
    refine pm_aload_n (i := 1) d2_8 rfl rfl ?_
    refine pm_getR d2_9 lf_0_34 rfl rfl ?_
    refine pm_iload d2_12 rfl ?_
    refine pm_ialdN d2_14 rfl (by decide) (by omega) ?_
    rw [e3]
    refine pm_istore (L2 := [(0, _), (1, _), (2, _), (3, _), (4, _), (5, _), (6, _)]) d2_15 (by decide) rfl ?_
    refine pm_aload_n (i := 1) d2_17 rfl rfl ?_
    refine pm_iload d2_18 rfl ?_
    refine pm_iload d2_20 rfl ?_
    refine pm_callV (k2 := 48) (As := [_, _]) d2_22 lk_0_37 ok_48 rfl rfl rfl (Nat.le_of_ble_eq_true rfl) rfl rfl rfl rfl rfl ⟨Nat.le_of_ble_eq_true rfl, Nat.le_of_ble_eq_true rfl⟩ (Nat.le_of_ble_eq_true rfl) ?_
    refine sp_48 h1 h6 hS y1 z1 ?_
    rw [btw_opI, hk, show opI (-1) (some k) = nI k from rfl]
    refine pm_istore (L2 := [(0, _), (1, _), (2, _), (3, _), (4, _), (5, _), (6, _), (7, _)]) d2_25 (by decide) rfl ?_
    refine pm_iload d2_27 rfl ?_
    refine pm_iload_n (i := 2) d2_29 rfl rfl ?_
    first | refine pm_icmp_ltN (tgt := 49) d2_30 rfl (by omega) (by omega) (fun c_30 => ?_) (fun c_30 => ?_) | refine pm_icmp_lt (tgt := 49) d2_30 rfl (fun c_30 => ?_) (fun c_30 => ?_)
    · omega
    · refine pm_iload d2_33 rfl ?_
      refine pm_iconst (v := -1) d2_35 (by decide) ?_
      refine pm_icmp_eq (tgt := 49) d2_36 rfl (fun c_36 => ?_) (fun c_36 => ?_)
      · exact absurd c_36 (by intro q; have := nI_pos (n := k) (by omega); rw [q] at this; exact this (by decide))
      · refine pm_aload_n (i := 0) d2_39 rfl rfl ?_
        refine pm_getE (v := nI c) d2_40 lf_0_18 rfl rfl (by simp [mset_get, q18]) ?_
        refine pm_sipush (v := nI 288) d2_43 (by decide) ?_
        first | refine pm_icmp_ltN (tgt := 50) d2_46 rfl (by omega) (by omega) (fun c_46 => ?_) (fun c_46 => ?_) | refine pm_icmp_lt (tgt := 50) d2_46 rfl (fun c_46 => ?_) (fun c_46 => ?_)
        · refine pm_aload_n (i := 0) d2_50 rfl rfl ?_
          refine pm_getR d2_51 lf_0_9 rfl rfl ?_
          refine pm_iconst (v := nI 3) d2_54 (by decide) ?_
          refine pm_aload_n (i := 0) d2_55 rfl rfl ?_
          refine pm_getE (v := nI c) d2_56 lf_0_18 rfl rfl (by simp [mset_get, q18]) ?_
          first | refine pm_imulN d2_59 ?_ | refine pm_imul d2_59 ?_
          refine pm_iload_n (i := 2) d2_60 rfl rfl ?_
          refine pm_iastN d2_61 rfl (by decide) (by omega) ?_
          refine pm_aload_n (i := 0) d2_62 rfl rfl ?_
          refine pm_getR d2_63 lf_0_9 rfl rfl ?_
          refine pm_iconst (v := nI 3) d2_66 (by decide) ?_
          refine pm_aload_n (i := 0) d2_67 rfl rfl ?_
          refine pm_getE (v := nI c) d2_68 lf_0_18 rfl rfl (by simp [mset_get, q18]) ?_
          first | refine pm_imulN d2_71 ?_ | refine pm_imul d2_71 ?_
          refine pm_iconst (v := nI 1) d2_72 (by decide) ?_
          first | refine pm_iaddN d2_73 ?_ | refine pm_iadd d2_73 ?_
          refine pm_iload d2_74 rfl ?_
          refine pm_iastN d2_76 rfl (by decide) (by omega) ?_
          refine pm_aload_n (i := 0) d2_77 rfl rfl ?_
          refine pm_getR d2_78 lf_0_9 rfl rfl ?_
          refine pm_iconst (v := nI 3) d2_81 (by decide) ?_
          refine pm_aload_n (i := 0) d2_82 rfl rfl ?_
          refine pm_getE (v := nI c) d2_83 lf_0_18 rfl rfl (by simp [mset_get, q18]) ?_
          first | refine pm_imulN d2_86 ?_ | refine pm_imul d2_86 ?_
          refine pm_iconst (v := nI 2) d2_87 (by decide) ?_
          first | refine pm_iaddN d2_88 ?_ | refine pm_iadd d2_88 ?_
          refine pm_iload d2_89 rfl ?_
          refine pm_iastN d2_91 rfl (by decide) (by omega) ?_
          refine pm_aload_n (i := 0) d2_92 rfl rfl ?_
          refine pm_getR d2_93 lf_0_15 rfl rfl ?_
          refine pm_iconst (v := nI 3) d2_96 (by decide) ?_
          refine pm_aload_n (i := 0) d2_97 rfl rfl ?_
          refine pm_getE (v := nI c) d2_98 lf_0_18 rfl rfl (by simp [mset_get, q18]) ?_
          first | refine pm_imulN d2_101 ?_ | refine pm_imul d2_101 ?_
          refine pm_aload_n (i := 1) d2_102 rfl rfl ?_
          refine pm_getR d2_103 lf_0_41 rfl rfl ?_
          refine pm_iload_n (i := 3) d2_106 rfl rfl ?_
          refine pm_ialdN d2_107 rfl (by decide) (by omega) ?_
          rw [mset_other (by decide), mset_other (by decide), mset_other (by decide), e2]
          refine pm_iastN d2_108 rfl (by decide) (by omega) ?_
          refine pm_aload_n (i := 0) d2_109 rfl rfl ?_
          refine pm_getR d2_110 lf_0_15 rfl rfl ?_
          refine pm_iconst (v := nI 3) d2_113 (by decide) ?_
          refine pm_aload_n (i := 0) d2_114 rfl rfl ?_
          refine pm_getE (v := nI c) d2_115 lf_0_18 rfl rfl (by simp [mset_get, q18]) ?_
          first | refine pm_imulN d2_118 ?_ | refine pm_imul d2_118 ?_
          refine pm_iconst (v := nI 1) d2_119 (by decide) ?_
          first | refine pm_iaddN d2_120 ?_ | refine pm_iadd d2_120 ?_
          refine pm_aload_n (i := 1) d2_121 rfl rfl ?_
          refine pm_getR d2_122 lf_0_41 rfl rfl ?_
          refine pm_iload d2_125 rfl ?_
          refine pm_ialdN d2_127 rfl (by decide) (by omega) ?_
          rw [mset_other (by decide), mset_other (by decide), mset_other (by decide), mset_other (by decide), e4]
          refine pm_iastN d2_128 rfl (by decide) (by omega) ?_
          refine pm_aload_n (i := 0) d2_129 rfl rfl ?_
          refine pm_getR d2_130 lf_0_15 rfl rfl ?_
          refine pm_iconst (v := nI 3) d2_133 (by decide) ?_
          refine pm_aload_n (i := 0) d2_134 rfl rfl ?_
          refine pm_getE (v := nI c) d2_135 lf_0_18 rfl rfl (by simp [mset_get, q18]) ?_
          first | refine pm_imulN d2_138 ?_ | refine pm_imul d2_138 ?_
          refine pm_iconst (v := nI 2) d2_139 (by decide) ?_
          first | refine pm_iaddN d2_140 ?_ | refine pm_iadd d2_140 ?_
          refine pm_iload d2_141 rfl ?_
          refine pm_iastN d2_143 rfl (by decide) (by omega) ?_
          refine pm_aload_n (i := 0) d2_144 rfl rfl ?_
          refine pm_dup d2_145 rfl ?_
          refine pm_getE (v := nI c) d2_146 lf_0_18 rfl rfl (by simp [mset_get, q18]) ?_
          refine pm_iconst (v := nI 1) d2_149 (by decide) ?_
          first | refine pm_iaddN d2_150 ?_ | refine pm_iadd d2_150 ?_
          refine pm_putI d2_151 lp_0_18 rfl rfl ?_
          refine pm_vret d2_154 rfl ?_
          refine hg _ (fun q hq9 => ?_) hFa
          rw [mset_other (by omega), mset_other (by omega), mset_other (by omega), mset_other (by omega), mset_other (by omega), mset_other (by omega), mset_other (by omega)]
        · omega
theorem BS_keep {f : Nat} {A A2 : Mem} (h : BS f A) (hk : ∀ c, 5 ≤ c → c ≤ 10 → A2 c = A c) : BS f A2 := by
  unfold BS at *
  rw [hk 5 (by omega) (by omega), hk 6 (by omega) (by omega), hk 7 (by omega) (by omega), hk 8 (by omega) (by omega), hk 9 (by omega) (by omega), hk 10 (by omega) (by omega)]
  exact h
theorem sp_1 {f : Nat} {A : Mem} {Q : Int32 → Mem → Prop} (h1 : 1 ≤ f) (h6 : f ≤ 6) (hB : BH f A) (hS : BS f A) (h : ∀ A2 : Mem, (∀ c, c < 18 ∨ 20 < c → A2 c = A c) → BF f A2 → Q 0 A2) : pm_P 1 0 [(0, .ref 18), (1, .ref 1), (2, .ref 5)] [] A Q := by
  have hb := bd_n h1 h6
  obtain ⟨bf0, bfn, bfs⟩ := bd_fc h1 h6
  have outer : ∀ a, a ≤ nh f → ∀ A1 : Mem, (∀ c, c < 18 ∨ 20 < c → A1 c = A c) → FB f (ff f a) A1 → pm_P 1 7 [(0, .ref 18), (1, .ref 1), (2, .ref 5), (3, .int (nI a))] [] A1 Q := by
    refine up_ind (fun a ha ih A1 g1 g2 => ?_)
    have hB1 : BH f A1 := BH_keep hB (fun c _ _ => g1 c (by omega))
    by_cases hlt : a < nh f
    · obtain ⟨w1, w2⟩ := bfs a hlt
      have hd := (bd_a h1 h6 hlt).1
      have mid : ∀ i, i ≤ dg f a → ∀ A1 : Mem, (∀ c, c < 18 ∨ 20 < c → A1 c = A c) → FB f (ff f a + cH f a i) A1 → pm_P 1 18 [(0, .ref 18), (1, .ref 1), (2, .ref 5), (3, .int (nI a)), (4, .int (nI i))] [] A1 Q := by
        refine up_ind (fun i hi9 ih2 A1 g1 g2 => ?_)
        have hS1 : BS f A1 := BS_keep hS (fun c _ _ => g1 c (by omega))
        have hdg := hS1.2.2.1 a hlt
        by_cases hlt2 : i < dg f a
        · have inner : ∀ j, j ≤ dg f a → i < j → ∀ A1 : Mem, (∀ c, c < 18 ∨ 20 < c → A1 c = A c) → FB f (ff f a + cH f a i + cI f a i j) A1 → pm_P 1 35 [(0, .ref 18), (1, .ref 1), (2, .ref 5), (3, .int (nI a)), (4, .int (nI i)), (5, .int (nI j))] [] A1 Q := by
            refine up_ind (fun j hj ih3 hij A1 g1 g2 => ?_)
            have hS1 : BS f A1 := BS_keep hS (fun c _ _ => g1 c (by omega))
            have hdg := hS1.2.2.1 a hlt
            have hbl : Nat.blt i j = true := by rw [Nat.blt_eq]; exact hij
            by_cases hlt3 : j < dg f a
            · have k66 : ∀ A1 : Mem, (∀ c, c < 18 ∨ 20 < c → A1 c = A c) → FB f (ff f a + cH f a i + cI f a i (j + 1)) A1 → pm_P 1 66 [(0, .ref 18), (1, .ref 1), (2, .ref 5), (3, .int (nI a)), (4, .int (nI i)), (5, .int (nI j))] [] A1 Q := by
                intro A1 g1 g2
                first | refine pm_iincN 1 (L2 := [(0, _), (1, _), (2, _), (3, _), (4, _), (5, _)]) d1_66 rfl (by decide) rfl ?_ | refine pm_iinc (L2 := [(0, _), (1, _), (2, _), (3, _), (4, _), (5, _)]) d1_66 rfl rfl (by decide) rfl ?_
                refine pm_goto (tgt := 35) d1_69 rfl ?_
                exact ih3 hlt3 (by omega) A1 g1 g2
              refine pm_iload d1_35 rfl ?_
              refine pm_aload_n (i := 2) d1_37 rfl rfl ?_
              refine pm_getR d1_38 lf_0_25 rfl rfl ?_
              refine pm_iload_n (i := 3) d1_41 rfl rfl ?_
              refine pm_ialdN d1_42 rfl (by decide) (by omega) ?_
              rw [hdg]
              first | refine pm_icmp_geN (tgt := 72) d1_43 rfl (by omega) (by omega) (fun c_43 => ?_) (fun c_43 => ?_) | refine pm_icmp_ge (tgt := 72) d1_43 rfl (fun c_43 => ?_) (fun c_43 => ?_)
              · omega
              · refine pm_aload_n (i := 0) d1_46 rfl rfl ?_
                refine pm_aload_n (i := 2) d1_47 rfl rfl ?_
                refine pm_iload_n (i := 3) d1_48 rfl rfl ?_
                refine pm_iload_n (i := 3) d1_49 rfl rfl ?_
                refine pm_bipush (v := nI 6) d1_50 (by decide) ?_
                first | refine pm_imulN d1_52 ?_ | refine pm_imul d1_52 ?_
                refine pm_iload d1_53 rfl ?_
                first | refine pm_iaddN d1_55 ?_ | refine pm_iadd d1_55 ?_
                refine pm_iload_n (i := 3) d1_56 rfl rfl ?_
                refine pm_bipush (v := nI 6) d1_57 (by decide) ?_
                first | refine pm_imulN d1_59 ?_ | refine pm_imul d1_59 ?_
                refine pm_iload d1_60 rfl ?_
                first | refine pm_iaddN d1_62 ?_ | refine pm_iadd d1_62 ?_
                refine pm_callVv (k2 := 2) (As := [_, _, _, _]) d1_63 lk_0_30 ok_2 rfl rfl rfl (Nat.le_of_ble_eq_true rfl) rfl rfl rfl rfl rfl ⟨Nat.le_of_ble_eq_true rfl, Nat.le_of_ble_eq_true rfl⟩ (Nat.le_of_ble_eq_true rfl) ?_
                refine sp_2 h1 h6 hS1 hlt hij hlt3 g2 rfl (fun hv => ?_) (fun hv A2 f1 f2 => ?_)
                · refine k66 A1 g1 ?_
                  have e : (fun k => Nat.blt i k && vF f a i k) j = false := by simp only [hv, Bool.and_false]
                  rw [show cI f a i (j + 1) = cI f a i j from cnt_f e]
                  exact g2
                refine k66 A2 (fun c hc => by rw [f1 c hc]; exact g1 c hc) ?_
                have e : (fun k => Nat.blt i k && vF f a i k) j = true := by simp only [hv, hbl, Bool.and_true]
                rw [show cI f a i (j + 1) = cI f a i j + 1 from cnt_t e]
                exact f2
            · have ej : j = dg f a := by omega
              refine pm_iload d1_35 rfl ?_
              refine pm_aload_n (i := 2) d1_37 rfl rfl ?_
              refine pm_getR d1_38 lf_0_25 rfl rfl ?_
              refine pm_iload_n (i := 3) d1_41 rfl rfl ?_
              refine pm_ialdN d1_42 rfl (by decide) (by omega) ?_
              rw [hdg]
              first | refine pm_icmp_geN (tgt := 72) d1_43 rfl (by omega) (by omega) (fun c_43 => ?_) (fun c_43 => ?_) | refine pm_icmp_ge (tgt := 72) d1_43 rfl (fun c_43 => ?_) (fun c_43 => ?_)
              · first | refine pm_iincN 1 (L2 := [(0, _), (1, _), (2, _), (3, _), (4, _), (5, _)]) d1_72 rfl (by decide) rfl ?_ | refine pm_iinc (L2 := [(0, _), (1, _), (2, _), (3, _), (4, _), (5, _)]) d1_72 rfl rfl (by decide) rfl ?_
                refine pm_goto (tgt := 18) d1_75 rfl ?_
                refine pm_pick [0, 1, 2, 3, 4] (L2 := [(0, _), (1, _), (2, _), (3, _), (4, _)]) rfl ?_
                refine ih2 hlt2 A1 g1 ?_
                rw [ej, Nat.add_assoc] at g2
                exact g2
              · omega
          refine pm_iload d1_18 rfl ?_
          refine pm_aload_n (i := 2) d1_20 rfl rfl ?_
          refine pm_getR d1_21 lf_0_25 rfl rfl ?_
          refine pm_iload_n (i := 3) d1_24 rfl rfl ?_
          refine pm_ialdN d1_25 rfl (by decide) (by omega) ?_
          rw [hdg]
          first | refine pm_icmp_geN (tgt := 78) d1_26 rfl (by omega) (by omega) (fun c_26 => ?_) (fun c_26 => ?_) | refine pm_icmp_ge (tgt := 78) d1_26 rfl (fun c_26 => ?_) (fun c_26 => ?_)
          · omega
          · refine pm_iload d1_29 rfl ?_
            refine pm_iconst (v := nI 1) d1_31 (by decide) ?_
            first | refine pm_iaddN d1_32 ?_ | refine pm_iadd d1_32 ?_
            refine pm_istore (L2 := [(0, _), (1, _), (2, _), (3, _), (4, _), (5, _)]) d1_33 (by decide) rfl ?_
            refine inner (i + 1) (by omega) (by omega) A1 g1 ?_
            rw [show cI f a i (i + 1) = 0 from cnt_non (fun k hk => by
              rw [show Nat.blt i k = false by rw [← Bool.not_eq_true, Nat.blt_eq]; omega, Bool.false_and])]
            exact g2
        · have ei : i = dg f a := by omega
          refine pm_iload d1_18 rfl ?_
          refine pm_aload_n (i := 2) d1_20 rfl rfl ?_
          refine pm_getR d1_21 lf_0_25 rfl rfl ?_
          refine pm_iload_n (i := 3) d1_24 rfl rfl ?_
          refine pm_ialdN d1_25 rfl (by decide) (by omega) ?_
          rw [hdg]
          first | refine pm_icmp_geN (tgt := 78) d1_26 rfl (by omega) (by omega) (fun c_26 => ?_) (fun c_26 => ?_) | refine pm_icmp_ge (tgt := 78) d1_26 rfl (fun c_26 => ?_) (fun c_26 => ?_)
          · first | refine pm_iincN 1 (L2 := [(0, _), (1, _), (2, _), (3, _), (4, _)]) d1_78 rfl (by decide) rfl ?_ | refine pm_iinc (L2 := [(0, _), (1, _), (2, _), (3, _), (4, _)]) d1_78 rfl rfl (by decide) rfl ?_
            refine pm_goto (tgt := 7) d1_81 rfl ?_
            refine pm_pick [0, 1, 2, 3] (L2 := [(0, _), (1, _), (2, _), (3, _)]) rfl ?_
            refine ih hlt A1 g1 ?_
            rw [w1, ← ei]
            exact g2
          · omega
      refine pm_iload_n (i := 3) d1_7 rfl rfl ?_
      refine pm_aload_n (i := 1) d1_8 rfl rfl ?_
      refine pm_getE d1_9 lf_0_22 rfl rfl (hB1.2.1) ?_
      first | refine pm_icmp_geN (tgt := 84) d1_12 rfl (by omega) (by omega) (fun c_12 => ?_) (fun c_12 => ?_) | refine pm_icmp_ge (tgt := 84) d1_12 rfl (fun c_12 => ?_) (fun c_12 => ?_)
      · omega
      · refine pm_iconst (v := nI 0) d1_15 (by decide) ?_
        refine pm_istore (L2 := [(0, _), (1, _), (2, _), (3, _), (4, _)]) d1_16 (by decide) rfl ?_
        exact mid 0 (Nat.zero_le _) A1 g1 g2
    · have ea : a = nh f := by omega
      refine pm_iload_n (i := 3) d1_7 rfl rfl ?_
      refine pm_aload_n (i := 1) d1_8 rfl rfl ?_
      refine pm_getE d1_9 lf_0_22 rfl rfl (hB1.2.1) ?_
      first | refine pm_icmp_geN (tgt := 84) d1_12 rfl (by omega) (by omega) (fun c_12 => ?_) (fun c_12 => ?_) | refine pm_icmp_ge (tgt := 84) d1_12 rfl (fun c_12 => ?_) (fun c_12 => ?_)
      · refine pm_vret d1_84 rfl ?_
        refine h A1 g1 ?_
        rw [ea, bfn] at g2
        exact g2
      · omega
  refine pm_aload_n (i := 0) d1_0 rfl rfl ?_
  refine pm_iconst (v := nI 0) d1_1 (by decide) ?_
  refine pm_putI d1_2 lp_0_18 rfl rfl ?_
  refine pm_iconst (v := nI 0) d1_5 (by decide) ?_
  refine pm_istore_n (i := 3) (L2 := [(0, _), (1, _), (2, _), (3, _)]) d1_6 rfl (by decide) rfl ?_
  refine outer 0 (Nat.zero_le _) _ (fun c hc => by rw [mset_other (by omega)]) ?_
  rw [bf0]
  exact ⟨by rw [mset_at], fun i hi9 => absurd hi9 (Nat.not_lt_zero i)⟩
theorem sp_88 {f g : Nat} {A : Mem} {Q : Int32 → Mem → Prop} (h1 : 1 ≤ f) (h6 : f ≤ 6) (hg : g < 2 ^ 31) (e0 : A 21 0 = nI f) (e1 : A 1 3 = nI g) (hor : g = f → Bt f A) (h : ∀ A2 : Mem, (∀ c, c < 1 ∨ 20 < c → A2 c = A c) → Bt f A2 → Q 0 A2) : pm_P 88 0 [(0, .ref 0)] [] A Q := by
  refine pm_aload_n (i := 0) d88_0 rfl rfl ?_
  refine pm_getR d88_1 lf_10_12 rfl rfl ?_
  refine pm_getE (v := nI g) d88_4 lf_10_309 rfl rfl (e1) ?_
  refine pm_aload_n (i := 0) d88_7 rfl rfl ?_
  refine pm_getR d88_8 lf_10_40 rfl rfl ?_
  refine pm_getE (v := nI f) d88_11 lf_10_94 rfl rfl (e0) ?_
  first | refine pm_icmp_neN (tgt := 18) d88_14 rfl (by omega) (by omega) (fun c_14 => ?_) (fun c_14 => ?_) | refine pm_icmp_ne (tgt := 18) d88_14 rfl (fun c_14 => ?_) (fun c_14 => ?_)
  · refine pm_aload_n (i := 0) d88_18 rfl rfl ?_
    refine pm_getR d88_19 lf_10_12 rfl rfl ?_
    refine pm_aload_n (i := 0) d88_22 rfl rfl ?_
    refine pm_getR d88_23 lf_10_40 rfl rfl ?_
    refine pm_getE (v := nI f) d88_26 lf_10_94 rfl rfl (e0) ?_
    refine pm_callVv (k2 := 8) (As := [_]) d88_29 lk_10_310 ok_8 rfl rfl rfl (Nat.le_of_ble_eq_true rfl) rfl rfl rfl rfl rfl ⟨Nat.le_of_ble_eq_true rfl, Nat.le_of_ble_eq_true rfl⟩ (Nat.le_of_ble_eq_true rfl) ?_
    refine sp_8 h1 h6 (fun A2 f1 f2 => ?_)
    refine pm_aload_n (i := 0) d88_32 rfl rfl ?_
    refine pm_getR d88_33 lf_10_19 rfl rfl ?_
    refine pm_aload_n (i := 0) d88_36 rfl rfl ?_
    refine pm_getR d88_37 lf_10_12 rfl rfl ?_
    refine pm_callVv (k2 := 45) (As := [_]) d88_40 lk_10_313 ok_45 rfl rfl rfl (Nat.le_of_ble_eq_true rfl) rfl rfl rfl rfl rfl ⟨Nat.le_of_ble_eq_true rfl, Nat.le_of_ble_eq_true rfl⟩ (Nat.le_of_ble_eq_true rfl) ?_
    refine sp_45 h1 h6 f2 (fun A3 f3 f4 => ?_)
    have b1 : BH f A3 := BH_keep f2 (fun c _ _ => f3 c (by omega))
    refine pm_aload_n (i := 0) d88_43 rfl rfl ?_
    refine pm_getR d88_44 lf_10_26 rfl rfl ?_
    refine pm_aload_n (i := 0) d88_47 rfl rfl ?_
    refine pm_getR d88_48 lf_10_12 rfl rfl ?_
    refine pm_aload_n (i := 0) d88_51 rfl rfl ?_
    refine pm_getR d88_52 lf_10_19 rfl rfl ?_
    refine pm_callVv (k2 := 18) (As := [_, _]) d88_55 lk_10_316 ok_18 rfl rfl rfl (Nat.le_of_ble_eq_true rfl) rfl rfl rfl rfl rfl ⟨Nat.le_of_ble_eq_true rfl, Nat.le_of_ble_eq_true rfl⟩ (Nat.le_of_ble_eq_true rfl) ?_
    refine sp_18 h1 h6 b1 f4 (fun A4 f5 f6 => ?_)
    have b2 : BH f A4 := BH_keep b1 (fun c _ _ => f5 c (by omega))
    have b3 : BS f A4 := BS_keep f4 (fun c _ _ => f5 c (by omega))
    refine pm_aload_n (i := 0) d88_58 rfl rfl ?_
    refine pm_getR d88_59 lf_10_33 rfl rfl ?_
    refine pm_aload_n (i := 0) d88_62 rfl rfl ?_
    refine pm_getR d88_63 lf_10_12 rfl rfl ?_
    refine pm_aload_n (i := 0) d88_66 rfl rfl ?_
    refine pm_getR d88_67 lf_10_19 rfl rfl ?_
    refine pm_callVv (k2 := 1) (As := [_, _]) d88_70 lk_10_319 ok_1 rfl rfl rfl (Nat.le_of_ble_eq_true rfl) rfl rfl rfl rfl rfl ⟨Nat.le_of_ble_eq_true rfl, Nat.le_of_ble_eq_true rfl⟩ (Nat.le_of_ble_eq_true rfl) ?_
    refine sp_1 h1 h6 b2 b3 (fun A5 f7 f8 => ?_)
    refine pm_vret d88_73 rfl ?_
    refine h A5 (fun c hc => by rw [f7 c (by omega), f5 c (by omega), f3 c (by omega), f1 c (by omega) (by omega) (by omega) (by omega)]) ⟨BH_keep b2 (fun c _ _ => f7 c (by omega)), BS_keep b3 (fun c _ _ => f7 c (by omega)), ?_, f8⟩
    unfold BK at *
    rw [f7 11 (by omega), f7 12 (by omega), f7 13 (by omega), f7 14 (by omega), f7 15 (by omega), f7 16 (by omega), f7 17 (by omega)]
    exact f6
  · refine pm_vret d88_17 rfl ?_
    exact h A (fun _ _ => rfl) (hor c_14)
