/-! the class's work rows: the tally of closed faces, the walk -/
theorem mset_at (A : Mem) (b j : Nat) (v : Int32) : mset A b j v b j = v := by simp [mset]
theorem mset_ne {A : Mem} {b j q : Nat} {v : Int32} (h : ¬ q = j) : mset A b j v b q = A b q := by simp [mset, h]
theorem sp_184 {A : Mem} {Q : Int32 → Mem → Prop} {b len9 : Nat} {v : Int32} (hs : (pm_sh (pm_wo 184))[b]? = some (.inr (0, len9))) (hl9 : len9 < 2 ^ 31) (h : ∀ A2 : Mem, (∀ c, c ≠ b → A2 c = A c) → (∀ i, i < len9 → A2 b i = v) → Q 0 A2) : pm_P 184 0 [(0, .ref b), (1, .int v)] [] A Q := by
  have lp : ∀ i, i ≤ len9 → ∀ A1 : Mem, (∀ c, c ≠ b → A1 c = A c) → (∀ j, j < i → A1 b j = v) → pm_P 184 5 [(0, .ref b), (1, .int v), (2, .int (nI i)), (3, .int (nI len9))] [] A1 Q := by
    refine up_ind (fun i hi9 ih A1 g1 g2 => ?_)
    refine pm_iload_n (i := 2) d184_5 rfl rfl ?_
    refine pm_iload_n (i := 3) d184_6 rfl rfl ?_
    first | refine pm_icmp_geN (tgt := 20) d184_7 rfl (by omega) (by omega) (fun c_7 => ?_) (fun c_7 => ?_) | refine pm_icmp_ge (tgt := 20) d184_7 rfl (fun c_7 => ?_) (fun c_7 => ?_)
    · refine pm_vret d184_20 rfl ?_
      exact h A1 g1 (fun j hj => g2 j (by omega))
    · refine pm_aload_n (i := 0) d184_10 rfl rfl ?_
      refine pm_iload_n (i := 2) d184_11 rfl rfl ?_
      refine pm_iload_n (i := 1) d184_12 rfl rfl ?_
      refine pm_iastN d184_13 hs (by omega) (by omega) ?_
      first | refine pm_iincN 1 (L2 := [(0, _), (1, _), (2, _), (3, _)]) d184_14 rfl (by decide) rfl ?_ | refine pm_iinc (L2 := [(0, _), (1, _), (2, _), (3, _)]) d184_14 rfl rfl (by decide) rfl ?_
      refine pm_goto (tgt := 5) d184_17 rfl ?_
      refine ih c_7 _ (fun c hc => (mset_other hc).trans (g1 c hc)) (fun j hj => ?_)
      by_cases e : j = i
      · rw [e, mset_at]
      · rw [mset_ne e]; exact g2 j (by omega)
  refine pm_iconst (v := nI 0) d184_0 (by decide) ?_
  refine pm_istore_n (i := 2) (L2 := [(0, _), (1, _), (2, _)]) d184_1 rfl (by decide) rfl ?_
  refine pm_aload_n (i := 0) d184_2 rfl rfl ?_
  refine pm_alen (v := nI len9) d184_3 hs (fun _ => rfl) rfl ?_
  refine pm_istore_n (i := 3) (L2 := [(0, _), (1, _), (2, _), (3, _)]) d184_4 rfl (by decide) rfl ?_
  exact lp 0 (Nat.zero_le _) A (fun _ _ => rfl) (fun j hj => by omega)
/-- in how many closed faces a strut is -/
def clp (s : Stt) (i k : Nat) : Bool := cf s k && (decide (sd (sF s) (3 * k) = i) || (decide (sd (sF s) (3 * k + 1) = i) || decide (sd (sF s) (3 * k + 2) = i)))
def clo (s : Stt) (i : Nat) : Nat := cnt (clp s i) (nf (sF s))
theorem tk_sd : allF (fun f => allN (nf f) (fun k => !Nat.beq (sd f (3 * k)) (sd f (3 * k + 1)) && (!Nat.beq (sd f (3 * k)) (sd f (3 * k + 2)) && !Nat.beq (sd f (3 * k + 1)) (sd f (3 * k + 2))))) = true := by decide +kernel
theorem bd_sd {f k : Nat} (h1 : 1 ≤ f) (h6 : f ≤ 6) (hk : k < nf f) : ¬ sd f (3 * k) = sd f (3 * k + 1) ∧ ¬ sd f (3 * k) = sd f (3 * k + 2) ∧ ¬ sd f (3 * k + 1) = sd f (3 * k + 2) := by
  have h2 := allN_of (allF_of tk_sd h1 h6) hk
  simp only [Bool.and_eq_true, Bool.not_eq_true'] at h2
  exact ⟨Nat.ne_of_beq_eq_false h2.1, Nat.ne_of_beq_eq_false h2.2.1, Nat.ne_of_beq_eq_false h2.2.2⟩
theorem sp_104 {s : Stt} {A : Mem} {Q : Int32 → Mem → Prop} (hI : CI s A) (h : ∀ A2 : Mem, (∀ c, c ≠ 51 → A2 c = A c) → (∀ i, i < 432 → A2 51 i = nI (clo s i)) → Q 0 A2) : pm_P 104 0 [(0, .ref 0)] [] A Q := by
  have hb := CI_bd hI
  have lp : ∀ k, k ≤ nf (sF s) → ∀ A1 : Mem, (∀ c, c ≠ 51 → A1 c = A c) → (∀ i, i < 432 → A1 51 i = nI (cnt (clp s i) k)) → pm_P 104 10 [(0, .ref 0), (1, .int (nI k))] [] A1 Q := by
    refine up_ind (fun k hi9 ih A1 g1 g2 => ?_)
    have hI1 : CI s A1 := CI_keep hI (fun c hc => g1 c (by omega))
    refine pm_iload_n (i := 1) d104_10 rfl rfl ?_
    refine pm_aload_n (i := 0) d104_11 rfl rfl ?_
    refine pm_getR d104_12 lf_10_33 rfl rfl ?_
    refine pm_getE d104_15 lf_10_128 rfl rfl (CI_nf hI1) ?_
    first | refine pm_icmp_geN (tgt := 99) d104_18 rfl (by omega) (by omega) (fun c_18 => ?_) (fun c_18 => ?_) | refine pm_icmp_ge (tgt := 99) d104_18 rfl (fun c_18 => ?_) (fun c_18 => ?_)
    · refine pm_vret d104_99 rfl ?_
      have ek : k = nf (sF s) := by omega
      exact h A1 g1 (fun i hi8 => by rw [g2 i hi8, ek]; rfl)
    · refine pm_aload_n (i := 0) d104_21 rfl rfl ?_
      refine pm_iload_n (i := 1) d104_22 rfl rfl ?_
      refine pm_callV (k2 := 92) (As := [_]) d104_23 lk_10_253 ok_92 rfl rfl rfl (Nat.le_of_ble_eq_true rfl) rfl rfl rfl rfl rfl ⟨Nat.le_of_ble_eq_true rfl, Nat.le_of_ble_eq_true rfl⟩ (Nat.le_of_ble_eq_true rfl) ?_
      refine sp_92 hI1 c_18 ?_
      first | refine pm_if_eqB (tgt := 93) d104_26 rfl (fun c_26 => ?_) (fun c_26 => ?_) | refine pm_if_eqN (tgt := 93) d104_26 rfl (by omega) (fun c_26 => ?_) (fun c_26 => ?_) | refine pm_if_eq (tgt := 93) d104_26 rfl (fun c_26 => ?_) (fun c_26 => ?_)
      · first | refine pm_iincN 1 (L2 := [(0, _), (1, _)]) d104_93 rfl (by decide) rfl ?_ | refine pm_iinc (L2 := [(0, _), (1, _)]) d104_93 rfl rfl (by decide) rfl ?_
        refine pm_goto (tgt := 10) d104_96 rfl ?_
        first
        | (refine ih c_18 _ (fun c hc => ?_) (fun i hi8 => ?_)
           · rw [mset_other hc, mset_other hc, mset_other hc]; exact g1 c hc
           · by_cases q2 : i = sd (sF s) (3 * k + 2)
             · rw [q2, mset_at, cnt_t (by simp [clp, c_26])]
             · rw [mset_ne q2]
               by_cases q1 : i = sd (sF s) (3 * k + 1)
               · rw [q1, mset_at, cnt_t (by simp [clp, c_26])]
               · rw [mset_ne q1]
                 by_cases q0 : i = sd (sF s) (3 * k)
                 · rw [q0, mset_at, cnt_t (by simp [clp, c_26])]
                 · rw [mset_ne q0, g2 i hi8, cnt_f (by simp [clp, Ne.symm q0, Ne.symm q1, Ne.symm q2])])
        | (exact ih c_18 A1 g1 (fun i hi8 => by rw [g2 i hi8, cnt_f (by simp [clp, c_26])]))
      · have e0 := CI_sd hI1 (i := 3 * k) (by omega)
        have e1 := CI_sd hI1 (i := 3 * k + 1) (by omega)
        have e2 := CI_sd hI1 (i := 3 * k + 2) (by omega)
        have b0 := (bd_f hI.1.1 hI.1.2.1 (i := 3 * k) (by omega)).2
        have b1 := (bd_f hI.1.1 hI.1.2.1 (i := 3 * k + 1) (by omega)).2
        have b2 := (bd_f hI.1.1 hI.1.2.1 (i := 3 * k + 2) (by omega)).2
        obtain ⟨d01, d02, d12⟩ := bd_sd hI.1.1 hI.1.2.1 c_18
        have n20 : ¬ (20 : Nat) = 51 := by decide
        refine pm_aload_n (i := 0) d104_29 rfl rfl ?_
        refine pm_getR d104_30 lf_10_79 rfl rfl ?_
        refine pm_aload_n (i := 0) d104_33 rfl rfl ?_
        refine pm_getR d104_34 lf_10_33 rfl rfl ?_
        refine pm_getR d104_37 lf_10_320 rfl rfl ?_
        refine pm_iconst (v := nI 3) d104_40 (by decide) ?_
        refine pm_iload_n (i := 1) d104_41 rfl rfl ?_
        first | refine pm_imulN d104_42 ?_ | refine pm_imul d104_42 ?_
        refine pm_ialdN d104_43 rfl (by decide) (by omega) ?_
        rw [e0]
        refine pm_dup2 d104_44 rfl rfl ?_
        refine pm_ialdN d104_45 rfl (by decide) (by omega) ?_
        rw [g2 _ (by omega)]
        refine pm_iconst (v := nI 1) d104_46 (by decide) ?_
        first | refine pm_iaddN d104_47 ?_ | refine pm_iadd d104_47 ?_
        refine pm_iastN d104_48 rfl (by decide) (by omega) ?_
        refine pm_aload_n (i := 0) d104_49 rfl rfl ?_
        refine pm_getR d104_50 lf_10_79 rfl rfl ?_
        refine pm_aload_n (i := 0) d104_53 rfl rfl ?_
        refine pm_getR d104_54 lf_10_33 rfl rfl ?_
        refine pm_getR d104_57 lf_10_320 rfl rfl ?_
        refine pm_iconst (v := nI 3) d104_60 (by decide) ?_
        refine pm_iload_n (i := 1) d104_61 rfl rfl ?_
        first | refine pm_imulN d104_62 ?_ | refine pm_imul d104_62 ?_
        refine pm_iconst (v := nI 1) d104_63 (by decide) ?_
        first | refine pm_iaddN d104_64 ?_ | refine pm_iadd d104_64 ?_
        refine pm_ialdN d104_65 rfl (by decide) (by omega) ?_
        rw [mset_other n20, e1]
        refine pm_dup2 d104_66 rfl rfl ?_
        refine pm_ialdN d104_67 rfl (by decide) (by omega) ?_
        rw [mset_ne (fun q => d01 q.symm), g2 _ (by omega)]
        refine pm_iconst (v := nI 1) d104_68 (by decide) ?_
        first | refine pm_iaddN d104_69 ?_ | refine pm_iadd d104_69 ?_
        refine pm_iastN d104_70 rfl (by decide) (by omega) ?_
        refine pm_aload_n (i := 0) d104_71 rfl rfl ?_
        refine pm_getR d104_72 lf_10_79 rfl rfl ?_
        refine pm_aload_n (i := 0) d104_75 rfl rfl ?_
        refine pm_getR d104_76 lf_10_33 rfl rfl ?_
        refine pm_getR d104_79 lf_10_320 rfl rfl ?_
        refine pm_iconst (v := nI 3) d104_82 (by decide) ?_
        refine pm_iload_n (i := 1) d104_83 rfl rfl ?_
        first | refine pm_imulN d104_84 ?_ | refine pm_imul d104_84 ?_
        refine pm_iconst (v := nI 2) d104_85 (by decide) ?_
        first | refine pm_iaddN d104_86 ?_ | refine pm_iadd d104_86 ?_
        refine pm_ialdN d104_87 rfl (by decide) (by omega) ?_
        rw [mset_other n20, mset_other n20, e2]
        refine pm_dup2 d104_88 rfl rfl ?_
        refine pm_ialdN d104_89 rfl (by decide) (by omega) ?_
        rw [mset_ne (fun q => d12 q.symm), mset_ne (fun q => d02 q.symm), g2 _ (by omega)]
        refine pm_iconst (v := nI 1) d104_90 (by decide) ?_
        first | refine pm_iaddN d104_91 ?_ | refine pm_iadd d104_91 ?_
        refine pm_iastN d104_92 rfl (by decide) (by omega) ?_
        first | refine pm_iincN 1 (L2 := [(0, _), (1, _)]) d104_93 rfl (by decide) rfl ?_ | refine pm_iinc (L2 := [(0, _), (1, _)]) d104_93 rfl rfl (by decide) rfl ?_
        refine pm_goto (tgt := 10) d104_96 rfl ?_
        first
        | (refine ih c_18 _ (fun c hc => ?_) (fun i hi8 => ?_)
           · rw [mset_other hc, mset_other hc, mset_other hc]; exact g1 c hc
           · by_cases q2 : i = sd (sF s) (3 * k + 2)
             · rw [q2, mset_at, cnt_t (by simp [clp, c_26])]
             · rw [mset_ne q2]
               by_cases q1 : i = sd (sF s) (3 * k + 1)
               · rw [q1, mset_at, cnt_t (by simp [clp, c_26])]
               · rw [mset_ne q1]
                 by_cases q0 : i = sd (sF s) (3 * k)
                 · rw [q0, mset_at, cnt_t (by simp [clp, c_26])]
                 · rw [mset_ne q0, g2 i hi8, cnt_f (by simp [clp, Ne.symm q0, Ne.symm q1, Ne.symm q2])])
        | (exact ih c_18 A1 g1 (fun i hi8 => by rw [g2 i hi8, cnt_f (by simp [clp, c_26])]))
  refine pm_aload_n (i := 0) d104_0 rfl rfl ?_
  refine pm_getR d104_1 lf_10_79 rfl rfl ?_
  refine pm_iconst (v := nI 0) d104_4 (by decide) ?_
  refine pm_callSv (k2 := 184) (As := [_, _]) d104_5 lk_10_326 ok_184 rfl rfl rfl (Nat.le_of_ble_eq_true rfl) rfl rfl ⟨Nat.le_of_ble_eq_true rfl, Nat.le_of_ble_eq_true rfl⟩ (Nat.le_of_ble_eq_true rfl) ?_
  refine sp_184 rfl (by decide) (fun A2 g1 g2 => ?_)
  refine pm_iconst (v := nI 0) d104_8 (by decide) ?_
  refine pm_istore_n (i := 1) (L2 := [(0, _), (1, _)]) d104_9 rfl (by decide) rfl ?_
  exact lp 0 (Nat.zero_le _) A2 g1 (fun i hi9 => g2 i hi9)
theorem sp_105 {s : Stt} {A : Mem} {Q : Int32 → Mem → Prop} {i : Nat} (hI : CI s A) (hi9 : i < ns (sF s)) (h : ∀ A2 : Mem, (∀ c, c ≠ 51 → A2 c = A c) → Q (nI (clo s i)) A2) : pm_P 105 0 [(0, .ref 0), (1, .int (nI i))] [] A Q := by
  have hb := CI_bd hI
  refine pm_aload_n (i := 0) d105_0 rfl rfl ?_
  refine pm_callVv (k2 := 104) (As := []) d105_1 lk_10_271 ok_104 rfl rfl rfl (Nat.le_of_ble_eq_true rfl) rfl rfl rfl rfl rfl ⟨Nat.le_of_ble_eq_true rfl, Nat.le_of_ble_eq_true rfl⟩ (Nat.le_of_ble_eq_true rfl) ?_
  refine sp_104 hI (fun A2 g1 g2 => ?_)
  refine pm_aload_n (i := 0) d105_4 rfl rfl ?_
  refine pm_getR d105_5 lf_10_79 rfl rfl ?_
  refine pm_iload_n (i := 1) d105_8 rfl rfl ?_
  refine pm_ialdN d105_9 rfl (by decide) (by omega) ?_
  rw [g2 _ (by omega)]
  refine pm_iret d105_10 rfl (by first | rfl | exact nar_b _) ?_
  exact h A2 g1
