/-! THE LAW'S OWN METHODS: low, does, tale -/
def lowV (a n : Int32) : Int32 := (a &&& 2147483647) - (a &&& 2147483647) / n * n
theorem sp_189 {a n : Int32} {A : Mem} {Q : Int32 → Mem → Prop} (hn : ¬ n = 0) (h : Q (lowV a n) A) : pm_P 189 0 [(0, .int a), (1, .int n)] [] A Q := by
  refine pm_iload_n (i := 0) d189_0 rfl rfl ?_
  refine pm_ldc (v := 2147483647) d189_1 lc_15_7 ?_
  refine pm_iand d189_3 ?_
  refine pm_iload_n (i := 1) d189_4 rfl rfl ?_
  refine pm_irem d189_5 hn ?_
  exact pm_iret d189_6 rfl rfl h
theorem pc_cnt {σ : Sig} {n : Nat} {A : Mem} {Q : Int32 → Mem → Prop} (hC : CW σ A) (hn : n < 19) (h : ∀ A2, CW σ A2 → Q (cntA σ n) A2) : pm_P 63 0 [(0, .ref 0), (1, .int (nI n))] [] A Q :=
  pc_63 hC (fun A2 h2 => by
    unfold aCount
    rw [ix_nI hn (by omega)]
    exact h A2 h2)
theorem pc_str {σ : Sig} {k j : Nat} {A : Mem} {Q : Int32 → Mem → Prop} (hC : CW σ A) (hk : k < ns (sF σ.1)) (hj : j ≤ 8) (h : ∀ A2, CW σ A2 → Q (strA σ.1 k j) A2) : pm_P 71 0 [(0, .ref 0), (1, .int (nI k)), (2, .int (nI j))] [] A Q :=
  pc_71 hC (fun A2 h2 => by
    rw [so_at hk (bd_n hC.1.1.1 hC.1.1.2.1).2.1 hj]
    exact h A2 h2)
/-- an error, and nothing has changed; or a change, and what was is kept -/
def DR (σ : Sig) (r : Int32) (τ : Sig) : Prop := (r < 0 ∧ τ = σ) ∨ (¬ r < 0 ∧ ∃ s2 : Stt, τ = (s2, hpush σ.2.1 σ.1, σ.2.2))
theorem dr_1 : (-1001 : Int32) < 0 := by decide
theorem dr_2 : (-1002 : Int32) < 0 := by decide
theorem dr_3 : (-1003 : Int32) < 0 := by decide
theorem dr_split {σ : Sig} {v : Int32} : DR σ (aSplit σ v).1 (aSplit σ v).2 := by
  unfold aSplit
  by_cases h : wi v 1 6 = true
  · rw [if_pos h]
    obtain ⟨n, n1, n6, rfl⟩ := wi_of (by omega) (by omega) h
    have := bd_n n1 n6
    refine Or.inr ⟨?_, _, rfl⟩
    dsimp only
    rw [nI_clamp (by omega)]
    exact sk_neg (by omega)
  · rw [if_neg h]
    exact Or.inl ⟨by first | exact dr_1 | exact dr_2 | exact dr_3, rfl⟩
theorem dr_rad {σ : Sig} {v : Int32} (ho : okS σ.1) : DR σ (aRad σ v).1 (aRad σ v).2 := by
  unfold aRad
  by_cases h : wi v 10 2000 = true
  · rw [if_pos h]
    have := ho.2.2.2.1
    exact Or.inr ⟨sk_neg (by omega), _, rfl⟩
  · rw [if_neg h]
    exact Or.inl ⟨by first | exact dr_1 | exact dr_2 | exact dr_3, rfl⟩
theorem dr_cut {σ : Sig} {v : Int32} (ho : okS σ.1) : DR σ (aCut σ v).1 (aCut σ v).2 := by
  unfold aCut
  by_cases h : wc v (sF σ.1) = true
  · rw [if_pos h]
    have := bd_n ho.1 ho.2.1
    have c := cnt_le (kh (sCut σ.1 v)) (nh (sF σ.1))
    exact Or.inr ⟨sk_neg (by omega), _, rfl⟩
  · rw [if_neg h]
    exact Or.inl ⟨by first | exact dr_1 | exact dr_2 | exact dr_3, rfl⟩
theorem dr_stock {σ : Sig} {v w : Int32} (ho : okS σ.1) : DR σ (aStock σ v w).1 (aStock σ v w).2 := by
  unfold aStock
  by_cases h : (wi v 100 20000 && wi w 0 20) = true
  · rw [if_pos h]
    by_cases hf : fitB σ.1 (sR σ.1) v.toNatClampNeg = true
    · rw [if_pos hf]
      rw [Bool.and_eq_true] at h
      obtain ⟨n, n1, n2, rfl⟩ := wi_of (by omega) (by omega) h.1
      rw [nI_clamp (by omega)] at hf ⊢
      have hl := swn_le (S := w.toNatClampNeg) ho.1 ho.2.1 ho.2.2.1 ho.2.2.2.1 (by omega) (of_decide_eq_true hf)
      exact Or.inr ⟨sk_neg (by omega), _, rfl⟩
    · rw [if_neg hf]
      exact Or.inl ⟨by first | exact dr_1 | exact dr_2 | exact dr_3, rfl⟩
  · rw [if_neg h]
    exact Or.inl ⟨by first | exact dr_1 | exact dr_2 | exact dr_3, rfl⟩
theorem dr_mend {σ : Sig} : DR σ (aMend σ).1 (aMend σ).2 := by
  have c := cnt_le (sM σ.1) 432
  exact Or.inr ⟨sk_neg (by omega), _, rfl⟩
theorem clo_bd {s : Stt} (h1 : 1 ≤ sF s) (h6 : sF s ≤ 6) (k : Nat) : clo s k ≤ 288 := by
  have := bd_n h1 h6
  have c := cnt_le (clp s k) (nf (sF s))
  unfold clo
  omega
theorem dr_lose {σ : Sig} {v : Int32} (ho : okS σ.1) : DR σ (aLose σ v).1 (aLose σ v).2 := by
  unfold aLose
  by_cases h : inN v (ns (sF σ.1)) = true
  · rw [if_pos h]
    by_cases h2 : sM σ.1 v.toNatClampNeg = true
    · rw [if_pos h2]
      exact Or.inl ⟨by first | exact dr_1 | exact dr_2 | exact dr_3, rfl⟩
    · rw [if_neg h2]
      by_cases h3 : 40 ≤ cnt (sM σ.1) 432
      · rw [if_pos h3]
        exact Or.inl ⟨by first | exact dr_1 | exact dr_2 | exact dr_3, rfl⟩
      · rw [if_neg h3]
        have := clo_bd ho.1 ho.2.1 v.toNatClampNeg
        exact Or.inr ⟨sk_neg (by omega), _, rfl⟩
  · rw [if_neg h]
    exact Or.inl ⟨by first | exact dr_1 | exact dr_2 | exact dr_3, rfl⟩
theorem dr_put {σ : Sig} {v : Int32} (ho : okS σ.1) : DR σ (aPut σ v).1 (aPut σ v).2 := by
  unfold aPut
  by_cases h : inN v (ns (sF σ.1)) = true
  · rw [if_pos h]
    by_cases h2 : sM σ.1 v.toNatClampNeg = true
    · rw [if_pos h2]
      have := clo_bd (s := sSet σ.1 v.toNatClampNeg false) ho.1 ho.2.1 v.toNatClampNeg
      exact Or.inr ⟨sk_neg (by omega), _, rfl⟩
    · rw [if_neg h2]
      exact Or.inl ⟨by first | exact dr_1 | exact dr_2 | exact dr_3, rfl⟩
  · rw [if_neg h]
    exact Or.inl ⟨by first | exact dr_1 | exact dr_2 | exact dr_3, rfl⟩
theorem dz_2 {σ : Sig} (ho : okS σ.1) : ¬ cntA σ 2 = 0 := fun h => by
  have := bd_n ho.1 ho.2.1
  have h2 : ns (sF σ.1) = 0 := (nI_inj (by omega) (by omega)).mp (show nI _ = nI 0 from h)
  omega
theorem dz_f {σ : Sig} (ho : okS σ.1) : ¬ 2 * cntA σ 0 + 1 = 0 := fun h => by
  obtain ⟨h1, h6, -⟩ := ho
  have e : (2 : Int32) * cntA σ 0 + 1 = nI (2 * sF σ.1 + 1) := by
    show nI 2 * nI (sF σ.1) + nI 1 = _
    rw [nI_mul, nI_add]
  rw [e] at h
  have h2 : 2 * sF σ.1 + 1 = 0 := (nI_inj (by omega) (by omega)).mp (show nI _ = nI 0 from h)
  omega
theorem and_15 (x : Int32) : ∃ n, n < 16 ∧ x &&& 15 = nI n := by
  refine ⟨(x &&& 15).toBitVec.toNat, ?_, ?_⟩
  · have h : (x &&& 15).toBitVec = x.toBitVec &&& 15#32 := rfl
    rw [h, BitVec.toNat_and]
    exact Nat.lt_of_le_of_lt Nat.and_le_right (by decide)
  · apply Int32.toBitVec_inj.mp
    show _ = BitVec.ofNat 32 _
    simp
theorem do_0 {σ : Sig} {v : Int32} {A : Mem} {Q : Int32 → Mem → Prop} (hC : CW σ A) (h : ∀ (r : Int32) (τ : Sig) (A2 : Mem), DR σ r τ → CW τ A2 → Q r A2) : pm_P 191 56 [(0, .ref 0), (1, .int v)] [] A Q := by
  have ho := hC.1.1
  refine pm_aload_n (i := 0) d191_56 rfl rfl ?_
  refine pm_iconst (v := 1) d191_57 (by decide) ?_
  refine pm_iload_n (i := 1) d191_58 rfl rfl ?_
  refine pm_iconst (v := 4) d191_59 (by decide) ?_
  refine pm_ishr d191_60 ?_
  refine pm_iconst (v := nI 3) d191_61 (by decide) ?_
  refine pm_callS (k2 := 189) (As := [_, _]) d191_62 lk_15_26 ok_189 rfl rfl rfl (Nat.le_of_ble_eq_true rfl) rfl rfl ⟨(Nat.le_of_ble_eq_true rfl), (Nat.le_of_ble_eq_true rfl)⟩ (Nat.le_of_ble_eq_true rfl) ?_
  refine sp_189 (by decide) ?_
  refine pm_iadd d191_65 ?_
  refine pm_callV (k2 := 59) (As := [_]) d191_66 lk_15_31 ok_59 rfl rfl rfl (Nat.le_of_ble_eq_true rfl) rfl rfl rfl rfl rfl ⟨(Nat.le_of_ble_eq_true rfl), (Nat.le_of_ble_eq_true rfl)⟩ (Nat.le_of_ble_eq_true rfl) ?_
  refine pc_59 hC (fun A hC => ?_)
  exact pm_iret d191_69 rfl rfl (h _ _ _ (dr_split) hC)
theorem do_1 {σ : Sig} {v : Int32} {A : Mem} {Q : Int32 → Mem → Prop} (hC : CW σ A) (h : ∀ (r : Int32) (τ : Sig) (A2 : Mem), DR σ r τ → CW τ A2 → Q r A2) : pm_P 191 70 [(0, .ref 0), (1, .int v)] [] A Q := by
  have ho := hC.1.1
  refine pm_aload_n (i := 0) d191_70 rfl rfl ?_
  refine pm_bipush (v := 10) d191_71 (by decide) ?_
  refine pm_iload_n (i := 1) d191_73 rfl rfl ?_
  refine pm_iconst (v := 4) d191_74 (by decide) ?_
  refine pm_ishr d191_75 ?_
  refine pm_sipush (v := nI 1991) d191_76 (by decide) ?_
  refine pm_callS (k2 := 189) (As := [_, _]) d191_79 lk_15_26 ok_189 rfl rfl rfl (Nat.le_of_ble_eq_true rfl) rfl rfl ⟨(Nat.le_of_ble_eq_true rfl), (Nat.le_of_ble_eq_true rfl)⟩ (Nat.le_of_ble_eq_true rfl) ?_
  refine sp_189 (by decide) ?_
  refine pm_iadd d191_82 ?_
  refine pm_callV (k2 := 60) (As := [_]) d191_83 lk_15_34 ok_60 rfl rfl rfl (Nat.le_of_ble_eq_true rfl) rfl rfl rfl rfl rfl ⟨(Nat.le_of_ble_eq_true rfl), (Nat.le_of_ble_eq_true rfl)⟩ (Nat.le_of_ble_eq_true rfl) ?_
  refine pc_60 hC (fun A hC => ?_)
  exact pm_iret d191_86 rfl rfl (h _ _ _ (dr_rad ho) hC)
theorem do_2 {σ : Sig} {v : Int32} {A : Mem} {Q : Int32 → Mem → Prop} (hC : CW σ A) (h : ∀ (r : Int32) (τ : Sig) (A2 : Mem), DR σ r τ → CW τ A2 → Q r A2) : pm_P 191 87 [(0, .ref 0), (1, .int v)] [] A Q := by
  have ho := hC.1.1
  refine pm_aload_n (i := 0) d191_87 rfl rfl ?_
  refine pm_iload_n (i := 1) d191_88 rfl rfl ?_
  refine pm_iconst (v := 4) d191_89 (by decide) ?_
  refine pm_ishr d191_90 ?_
  refine pm_iconst (v := 2) d191_91 (by decide) ?_
  refine pm_aload_n (i := 0) d191_92 rfl rfl ?_
  refine pm_iconst (v := nI 0) d191_93 (by decide) ?_
  refine pm_callV (k2 := 63) (As := [_]) d191_94 lk_15_12 ok_63 rfl rfl rfl (Nat.le_of_ble_eq_true rfl) rfl rfl rfl rfl rfl ⟨(Nat.le_of_ble_eq_true rfl), (Nat.le_of_ble_eq_true rfl)⟩ (Nat.le_of_ble_eq_true rfl) ?_
  refine pc_cnt hC (by decide) (fun A hC => ?_)
  refine pm_imul d191_97 ?_
  refine pm_iconst (v := 1) d191_98 (by decide) ?_
  refine pm_iadd d191_99 ?_
  refine pm_callS (k2 := 189) (As := [_, _]) d191_100 lk_15_26 ok_189 rfl rfl rfl (Nat.le_of_ble_eq_true rfl) rfl rfl ⟨(Nat.le_of_ble_eq_true rfl), (Nat.le_of_ble_eq_true rfl)⟩ (Nat.le_of_ble_eq_true rfl) ?_
  refine sp_189 (dz_f ho) ?_
  refine pm_aload_n (i := 0) d191_103 rfl rfl ?_
  refine pm_iconst (v := nI 0) d191_104 (by decide) ?_
  refine pm_callV (k2 := 63) (As := [_]) d191_105 lk_15_12 ok_63 rfl rfl rfl (Nat.le_of_ble_eq_true rfl) rfl rfl rfl rfl rfl ⟨(Nat.le_of_ble_eq_true rfl), (Nat.le_of_ble_eq_true rfl)⟩ (Nat.le_of_ble_eq_true rfl) ?_
  refine pc_cnt hC (by decide) (fun A hC => ?_)
  refine pm_isub d191_108 ?_
  refine pm_callV (k2 := 61) (As := [_]) d191_109 lk_15_37 ok_61 rfl rfl rfl (Nat.le_of_ble_eq_true rfl) rfl rfl rfl rfl rfl ⟨(Nat.le_of_ble_eq_true rfl), (Nat.le_of_ble_eq_true rfl)⟩ (Nat.le_of_ble_eq_true rfl) ?_
  refine pc_61 hC (fun A hC => ?_)
  exact pm_iret d191_112 rfl rfl (h _ _ _ (dr_cut ho) hC)
theorem do_4 {σ : Sig} {v : Int32} {A : Mem} {Q : Int32 → Mem → Prop} (hC : CW σ A) (h : ∀ (r : Int32) (τ : Sig) (A2 : Mem), DR σ r τ → CW τ A2 → Q r A2) : pm_P 191 113 [(0, .ref 0), (1, .int v)] [] A Q := by
  have ho := hC.1.1
  refine pm_aload_n (i := 0) d191_113 rfl rfl ?_
  refine pm_bipush (v := 100) d191_114 (by decide) ?_
  refine pm_iload_n (i := 1) d191_116 rfl rfl ?_
  refine pm_iconst (v := 4) d191_117 (by decide) ?_
  refine pm_ishr d191_118 ?_
  refine pm_sipush (v := nI 6000) d191_119 (by decide) ?_
  refine pm_callS (k2 := 189) (As := [_, _]) d191_122 lk_15_26 ok_189 rfl rfl rfl (Nat.le_of_ble_eq_true rfl) rfl rfl ⟨(Nat.le_of_ble_eq_true rfl), (Nat.le_of_ble_eq_true rfl)⟩ (Nat.le_of_ble_eq_true rfl) ?_
  refine sp_189 (by decide) ?_
  refine pm_iadd d191_125 ?_
  refine pm_iload_n (i := 1) d191_126 rfl rfl ?_
  refine pm_bipush (v := 17) d191_127 (by decide) ?_
  refine pm_ishr d191_129 ?_
  refine pm_bipush (v := nI 21) d191_130 (by decide) ?_
  refine pm_callS (k2 := 189) (As := [_, _]) d191_132 lk_15_26 ok_189 rfl rfl rfl (Nat.le_of_ble_eq_true rfl) rfl rfl ⟨(Nat.le_of_ble_eq_true rfl), (Nat.le_of_ble_eq_true rfl)⟩ (Nat.le_of_ble_eq_true rfl) ?_
  refine sp_189 (by decide) ?_
  refine pm_callV (k2 := 62) (As := [_, _]) d191_135 lk_15_40 ok_62 rfl rfl rfl (Nat.le_of_ble_eq_true rfl) rfl rfl rfl rfl rfl ⟨(Nat.le_of_ble_eq_true rfl), (Nat.le_of_ble_eq_true rfl)⟩ (Nat.le_of_ble_eq_true rfl) ?_
  refine pc_62 hC (fun A hC => ?_)
  exact pm_iret d191_138 rfl rfl (h _ _ _ (dr_stock ho) hC)
theorem do_5 {σ : Sig} {v : Int32} {A : Mem} {Q : Int32 → Mem → Prop} (hC : CW σ A) (h : ∀ (r : Int32) (τ : Sig) (A2 : Mem), DR σ r τ → CW τ A2 → Q r A2) : pm_P 191 139 [(0, .ref 0), (1, .int v)] [] A Q := by
  have ho := hC.1.1
  refine pm_aload_n (i := 0) d191_139 rfl rfl ?_
  refine pm_callV (k2 := 76) (As := []) d191_140 lk_15_43 ok_76 rfl rfl rfl (Nat.le_of_ble_eq_true rfl) rfl rfl rfl rfl rfl ⟨(Nat.le_of_ble_eq_true rfl), (Nat.le_of_ble_eq_true rfl)⟩ (Nat.le_of_ble_eq_true rfl) ?_
  refine pc_76 hC (fun A hC => ?_)
  exact pm_iret d191_143 rfl rfl (h _ _ _ (dr_mend) hC)
theorem do_6 {σ : Sig} {v : Int32} {A : Mem} {Q : Int32 → Mem → Prop} (hC : CW σ A) (h : ∀ (r : Int32) (τ : Sig) (A2 : Mem), DR σ r τ → CW τ A2 → Q r A2) : pm_P 191 144 [(0, .ref 0), (1, .int v)] [] A Q := by
  have ho := hC.1.1
  refine pm_aload_n (i := 0) d191_144 rfl rfl ?_
  refine pm_iload_n (i := 1) d191_145 rfl rfl ?_
  refine pm_iconst (v := 4) d191_146 (by decide) ?_
  refine pm_ishr d191_147 ?_
  refine pm_aload_n (i := 0) d191_148 rfl rfl ?_
  refine pm_iconst (v := nI 2) d191_149 (by decide) ?_
  refine pm_callV (k2 := 63) (As := [_]) d191_150 lk_15_12 ok_63 rfl rfl rfl (Nat.le_of_ble_eq_true rfl) rfl rfl rfl rfl rfl ⟨(Nat.le_of_ble_eq_true rfl), (Nat.le_of_ble_eq_true rfl)⟩ (Nat.le_of_ble_eq_true rfl) ?_
  refine pc_cnt hC (by decide) (fun A hC => ?_)
  refine pm_callS (k2 := 189) (As := [_, _]) d191_153 lk_15_26 ok_189 rfl rfl rfl (Nat.le_of_ble_eq_true rfl) rfl rfl ⟨(Nat.le_of_ble_eq_true rfl), (Nat.le_of_ble_eq_true rfl)⟩ (Nat.le_of_ble_eq_true rfl) ?_
  refine sp_189 (dz_2 ho) ?_
  refine pm_callV (k2 := 75) (As := [_]) d191_156 lk_15_47 ok_75 rfl rfl rfl (Nat.le_of_ble_eq_true rfl) rfl rfl rfl rfl rfl ⟨(Nat.le_of_ble_eq_true rfl), (Nat.le_of_ble_eq_true rfl)⟩ (Nat.le_of_ble_eq_true rfl) ?_
  refine pc_75 hC (fun A hC => ?_)
  exact pm_iret d191_159 rfl rfl (h _ _ _ (dr_put ho) hC)
theorem do_9 {σ : Sig} {v : Int32} {A : Mem} {Q : Int32 → Mem → Prop} (hC : CW σ A) (h : ∀ (r : Int32) (τ : Sig) (A2 : Mem), DR σ r τ → CW τ A2 → Q r A2) : pm_P 191 160 [(0, .ref 0), (1, .int v)] [] A Q := by
  have ho := hC.1.1
  refine pm_aload_n (i := 0) d191_160 rfl rfl ?_
  refine pm_iload_n (i := 1) d191_161 rfl rfl ?_
  refine pm_iconst (v := 4) d191_162 (by decide) ?_
  refine pm_ishr d191_163 ?_
  refine pm_aload_n (i := 0) d191_164 rfl rfl ?_
  refine pm_iconst (v := nI 2) d191_165 (by decide) ?_
  refine pm_callV (k2 := 63) (As := [_]) d191_166 lk_15_12 ok_63 rfl rfl rfl (Nat.le_of_ble_eq_true rfl) rfl rfl rfl rfl rfl ⟨(Nat.le_of_ble_eq_true rfl), (Nat.le_of_ble_eq_true rfl)⟩ (Nat.le_of_ble_eq_true rfl) ?_
  refine pc_cnt hC (by decide) (fun A hC => ?_)
  refine pm_callS (k2 := 189) (As := [_, _]) d191_169 lk_15_26 ok_189 rfl rfl rfl (Nat.le_of_ble_eq_true rfl) rfl rfl ⟨(Nat.le_of_ble_eq_true rfl), (Nat.le_of_ble_eq_true rfl)⟩ (Nat.le_of_ble_eq_true rfl) ?_
  refine sp_189 (dz_2 ho) ?_
  refine pm_callV (k2 := 74) (As := [_]) d191_172 lk_15_50 ok_74 rfl rfl rfl (Nat.le_of_ble_eq_true rfl) rfl rfl rfl rfl rfl ⟨(Nat.le_of_ble_eq_true rfl), (Nat.le_of_ble_eq_true rfl)⟩ (Nat.le_of_ble_eq_true rfl) ?_
  refine pc_74 hC (fun A hC => ?_)
  exact pm_iret d191_175 rfl rfl (h _ _ _ (dr_lose ho) hC)
theorem sp_191 {σ : Sig} {v : Int32} {A : Mem} {Q : Int32 → Mem → Prop} (hC : CW σ A) (h : ∀ (r : Int32) (τ : Sig) (A2 : Mem), DR σ r τ → CW τ A2 → Q r A2) : pm_P 191 0 [(0, .ref 0), (1, .int v)] [] A Q := by
  refine pm_iload_n (i := 1) d191_0 rfl rfl ?_
  refine pm_bipush (v := 15) d191_1 (by decide) ?_
  refine pm_iand d191_3 ?_
  obtain ⟨y, hy, ey⟩ := and_15 v
  rw [ey]
  rcases (show y = 0 ∨ y = 1 ∨ y = 2 ∨ y = 3 ∨ y = 4 ∨ y = 5 ∨ y = 6 ∨ y = 7 ∨ y = 8 ∨ 9 ≤ y by omega) with rfl | rfl | rfl | rfl | rfl | rfl | rfl | rfl | rfl | h9
  · exact pm_swIn (off := 52) (tgt := 56) d191_4 (by decide) (by decide) (by decide +kernel) rfl (do_0 hC h)
  · exact pm_swIn (off := 66) (tgt := 70) d191_4 (by decide) (by decide) (by decide +kernel) rfl (do_1 hC h)
  · exact pm_swIn (off := 83) (tgt := 87) d191_4 (by decide) (by decide) (by decide +kernel) rfl (do_2 hC h)
  · exact pm_swIn (off := 83) (tgt := 87) d191_4 (by decide) (by decide) (by decide +kernel) rfl (do_2 hC h)
  · exact pm_swIn (off := 109) (tgt := 113) d191_4 (by decide) (by decide) (by decide +kernel) rfl (do_4 hC h)
  · exact pm_swIn (off := 135) (tgt := 139) d191_4 (by decide) (by decide) (by decide +kernel) rfl (do_5 hC h)
  · exact pm_swIn (off := 140) (tgt := 144) d191_4 (by decide) (by decide) (by decide +kernel) rfl (do_6 hC h)
  · exact pm_swIn (off := 140) (tgt := 144) d191_4 (by decide) (by decide) (by decide +kernel) rfl (do_6 hC h)
  · exact pm_swIn (off := 140) (tgt := 144) d191_4 (by decide) (by decide) (by decide +kernel) rfl (do_6 hC h)
  · exact pm_swOut (tgt := 160) d191_4 (Or.inr (by rw [nI_toInt (by omega)]; omega)) rfl (do_9 hC h)
/-- what the tale tells of the counts, and then of the struts -/
def tl1 (σ : Sig) : Nat → Int64
  | 0 => 3
  | n + 1 => tl1 σ n * 31 + (if n = 16 then (0 : Int32) else cntA σ n).toInt64
def tl2 (σ : Sig) : Nat → Int64
  | 0 => tl1 σ 19
  | j + 1 => tl2 σ j * 37 + (strA σ.1 (3 * j) 3).toInt64 + 3 * (strA σ.1 (3 * j) 4).toInt64 + 5 * (strA σ.1 (3 * j) 5).toInt64
def tale (σ : Sig) : Int64 := tl2 σ (4 * sF σ.1 * sF σ.1)
theorem cnt_H {s : Stt} {H H2 : Hst} {x : Txt} : ∀ n, ¬ n = 16 → cntA (s, H, x) n = cntA (s, H2, x) n := by
  intro n h
  unfold cntA
  split <;> first | rfl | exact absurd rfl h
theorem tale_H {s : Stt} {H H2 : Hst} {x : Txt} : tale (s, H, x) = tale (s, H2, x) := by
  have h1 : ∀ n, tl1 (s, H, x) n = tl1 (s, H2, x) n := by
    intro n
    induction n with
    | zero => rfl
    | succ n ih =>
      simp only [tl1]
      rw [ih]
      by_cases q : n = 16
      · rw [if_pos q, if_pos q]
      · rw [if_neg q, if_neg q, cnt_H n q]
  have h2 : ∀ n, tl2 (s, H, x) n = tl2 (s, H2, x) n := by
    intro n
    induction n with
    | zero => exact h1 19
    | succ n ih =>
      simp only [tl2]
      rw [ih]
  exact h2 _
theorem sp_190 {σ : Sig} {A : Mem} {Q : Int64 → Mem → Prop} (hC : CW σ A) (h : ∀ A2, CW σ A2 → Q (tale σ) A2) : pl_P 190 0 [(0, .ref 0)] [] A Q := by
  have hb := bd_n hC.1.1.1 hC.1.1.2.1
  have e3 : ns (sF σ.1) = 3 * (4 * sF σ.1 * sF σ.1) := by
    unfold ns
    rw [← Nat.mul_assoc, ← Nat.mul_assoc]
  have lp2 : ∀ j, j ≤ 4 * sF σ.1 * sF σ.1 → ∀ A, CW σ A → pl_P 190 43 [(0, .ref 0), (1, .long (tl2 σ j)), (3, .int (nI (3 * j)))] [] A Q := by
    refine up_ind (fun j hj ih A hC => ?_)
    refine pl_iload_n (i := 3) d190_43 rfl rfl ?_
    refine pl_aload_n (i := 0) d190_44 rfl rfl ?_
    refine pl_iconst (v := nI 2) d190_45 (by decide) ?_
    refine pl_callV (k2 := 63) (As := [_]) d190_46 lk_15_12 ok_63 rfl rfl rfl (Nat.le_of_ble_eq_true rfl) rfl rfl rfl rfl rfl ⟨(Nat.le_of_ble_eq_true rfl), (Nat.le_of_ble_eq_true rfl)⟩ (Nat.le_of_ble_eq_true rfl) ?_
    refine pc_cnt hC (by decide) (fun A hC => ?_)
    refine pl_icmp_ge (tgt := 96) d190_49 rfl (fun h9 => ?_) (fun h9 => ?_)
    · have h8 : ns (sF σ.1) ≤ 3 * j := (nI_le_iff (by omega) (by omega)).mp h9
      have h7 : j = 4 * sF σ.1 * sF σ.1 := by omega
      subst h7
      refine pl_lload_n (i := 1) d190_96 rfl rfl ?_
      exact pl_lret d190_97 rfl (h A hC)
    · have h8 : 3 * j < ns (sF σ.1) := by
        rcases Nat.lt_or_ge (3 * j) (ns (sF σ.1)) with q | q
        · exact q
        · exact absurd ((nI_le_iff (by omega) (by omega)).mpr q) h9
      refine pl_lload_n (i := 1) d190_52 rfl rfl ?_
      refine pl_ldc2 d190_53 ll_15_18 ?_
      refine pl_lmul d190_56 ?_
      refine pl_aload_n (i := 0) d190_57 rfl rfl ?_
      refine pl_iload_n (i := 3) d190_58 rfl rfl ?_
      refine pl_iconst (v := nI 3) d190_59 (by decide) ?_
      refine pl_callV (k2 := 71) (As := [_, _]) d190_60 lk_15_20 ok_71 rfl rfl rfl (Nat.le_of_ble_eq_true rfl) rfl rfl rfl rfl rfl ⟨(Nat.le_of_ble_eq_true rfl), (Nat.le_of_ble_eq_true rfl)⟩ (Nat.le_of_ble_eq_true rfl) ?_
      refine pc_str hC (by omega) (by decide) (fun A hC => ?_)
      refine pl_i2l d190_63 rfl ?_
      refine pl_ladd d190_64 ?_
      refine pl_ldc2 d190_65 ll_15_8 ?_
      refine pl_aload_n (i := 0) d190_68 rfl rfl ?_
      refine pl_iload_n (i := 3) d190_69 rfl rfl ?_
      refine pl_iconst (v := nI 4) d190_70 (by decide) ?_
      refine pl_callV (k2 := 71) (As := [_, _]) d190_71 lk_15_20 ok_71 rfl rfl rfl (Nat.le_of_ble_eq_true rfl) rfl rfl rfl rfl rfl ⟨(Nat.le_of_ble_eq_true rfl), (Nat.le_of_ble_eq_true rfl)⟩ (Nat.le_of_ble_eq_true rfl) ?_
      refine pc_str hC (by omega) (by decide) (fun A hC => ?_)
      refine pl_i2l d190_74 rfl ?_
      refine pl_lmul d190_75 ?_
      refine pl_ladd d190_76 ?_
      refine pl_ldc2 d190_77 ll_15_24 ?_
      refine pl_aload_n (i := 0) d190_80 rfl rfl ?_
      refine pl_iload_n (i := 3) d190_81 rfl rfl ?_
      refine pl_iconst (v := nI 5) d190_82 (by decide) ?_
      refine pl_callV (k2 := 71) (As := [_, _]) d190_83 lk_15_20 ok_71 rfl rfl rfl (Nat.le_of_ble_eq_true rfl) rfl rfl rfl rfl rfl ⟨(Nat.le_of_ble_eq_true rfl), (Nat.le_of_ble_eq_true rfl)⟩ (Nat.le_of_ble_eq_true rfl) ?_
      refine pc_str hC (by omega) (by decide) (fun A hC => ?_)
      refine pl_i2l d190_86 rfl ?_
      refine pl_lmul d190_87 ?_
      refine pl_ladd d190_88 ?_
      refine pl_lstore_n (i := 1) (L2 := [(0, _), (1, _), (3, _)]) d190_89 rfl (by decide) rfl ?_
      refine pl_iinc (v := nI (3 * (j + 1))) (L2 := [(0, _), (1, _), (3, _)]) d190_90 rfl (by show nI (3 * j) + nI 3 = _; rw [nI_add]; rfl) (by decide) rfl ?_
      refine pl_goto (tgt := 43) d190_93 rfl ?_
      exact ih (by omega) A hC
  have lp1 : ∀ n, n ≤ 19 → ∀ A, CW σ A → pl_P 190 6 [(0, .ref 0), (1, .long (tl1 σ n)), (3, .int (nI n))] [] A Q := by
    refine up_ind (fun n hn ih A hC => ?_)
    refine pl_iload_n (i := 3) d190_6 rfl rfl ?_
    refine pl_bipush (v := 19) d190_7 (by decide) ?_
    refine pl_icmp_ge (tgt := 41) d190_9 rfl (fun h9 => ?_) (fun h9 => ?_)
    · have h8 : 19 ≤ n := (nI_le_iff (a := 19) (by omega) (by omega)).mp h9
      have h7 : n = 19 := by omega
      subst h7
      refine pl_iconst (v := 0) d190_41 (by decide) ?_
      refine pl_istore_n (i := 3) (L2 := [(0, _), (1, _), (3, _)]) d190_42 rfl (by decide) rfl ?_
      exact lp2 0 (Nat.zero_le _) A hC
    · have h8 : n < 19 := by
        rcases Nat.lt_or_ge n 19 with q | q
        · exact q
        · exact absurd ((nI_le_iff (a := 19) (by omega) (by omega)).mpr q) h9
      have tail : ∀ (y : Int32) (A : Mem), CW σ A → y = (if n = 16 then (0 : Int32) else cntA σ n) → pl_P 190 32 [(0, .ref 0), (1, .long (tl1 σ n)), (3, .int (nI n))] [.int y, .long (tl1 σ n * 31)] A Q := by
        intro y A hC ey
        subst ey
        refine pl_i2l d190_32 rfl ?_
        refine pl_ladd d190_33 ?_
        refine pl_lstore_n (i := 1) (L2 := [(0, _), (1, _), (3, _)]) d190_34 rfl (by decide) rfl ?_
        refine pl_iinc (v := nI (n + 1)) (L2 := [(0, _), (1, _), (3, _)]) d190_35 rfl (by show nI n + nI 1 = _; rw [nI_add]) (by decide) rfl ?_
        refine pl_goto (tgt := 6) d190_38 rfl ?_
        exact ih (by omega) A hC
      refine pl_lload_n (i := 1) d190_12 rfl rfl ?_
      refine pl_ldc2 d190_13 ll_15_10 ?_
      refine pl_lmul d190_16 ?_
      refine pl_iload_n (i := 3) d190_17 rfl rfl ?_
      refine pl_bipush (v := 16) d190_18 (by decide) ?_
      refine pl_icmp_ne (tgt := 27) d190_20 rfl (fun h7 => ?_) (fun h7 => ?_)
      · have h6 : ¬ n = 16 := fun q => h7 (by rw [q]; decide)
        refine pl_aload_n (i := 0) d190_27 rfl rfl ?_
        refine pl_iload_n (i := 3) d190_28 rfl rfl ?_
        refine pl_callV (k2 := 63) (As := [_]) d190_29 lk_15_12 ok_63 rfl rfl rfl (Nat.le_of_ble_eq_true rfl) rfl rfl rfl rfl rfl ⟨(Nat.le_of_ble_eq_true rfl), (Nat.le_of_ble_eq_true rfl)⟩ (Nat.le_of_ble_eq_true rfl) ?_
        refine pc_cnt hC h8 (fun A hC => ?_)
        exact tail _ A hC (by rw [if_neg h6])
      · have h6 : n = 16 := (nI_inj (b := 16) (by omega) (by omega)).mp h7
        refine pl_iconst (v := 0) d190_23 (by decide) ?_
        refine pl_goto (tgt := 32) d190_24 rfl ?_
        exact tail _ A hC (by rw [if_pos h6])
  refine pl_ldc2 d190_0 ll_15_8 ?_
  refine pl_lstore_n (i := 1) (L2 := [(0, _), (1, _)]) d190_3 rfl (by decide) rfl ?_
  refine pl_iconst (v := nI 0) d190_4 (by decide) ?_
  refine pl_istore_n (i := 3) (L2 := [(0, _), (1, _), (3, _)]) d190_5 rfl (by decide) rfl ?_
  exact lp1 0 (Nat.zero_le _) A hC
