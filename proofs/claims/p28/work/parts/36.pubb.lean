/-! THE CLASS'S CALLS (71 to 83) -/
theorem anyN_ex {p : Nat → Bool} {n : Nat} (h : anyN p n = true) : ∃ i, i < n ∧ p i = true := by
  induction n with
  | zero => cases h
  | succ n ih =>
    simp only [anyN, Bool.or_eq_true] at h
    rcases h with h | h
    · obtain ⟨i, a, b⟩ := ih h
      exact ⟨i, by omega, b⟩
    · exact ⟨n, by omega, h⟩
theorem pc_71 {σ : Sig} {u v : Int32} {A : Mem} {Q : Int32 → Mem → Prop} (hC : CW σ A) (h : ∀ A2, CW σ A2 → Q (aStrutOf σ.1 u v) A2) : pm_P 71 0 [(0, .ref 0), (1, .int u), (2, .int v)] [] A Q := by
  obtain ⟨s, H, x⟩ := σ
  obtain ⟨hI, hH, hT, hX⟩ := id hC
  dsimp only at hI hH hT hX h
  have hb := CI_bd hI
  have hh := h A hC
  unfold aStrutOf at hh
  refine pm_aload_n (i := 0) d71_0 rfl rfl ?_
  refine pm_iload_n (i := 1) d71_1 rfl rfl ?_
  refine pm_callV (k2 := 87) (As := [_]) d71_2 lk_10_209 ok_87 rfl rfl rfl (Nat.le_of_ble_eq_true rfl) rfl rfl rfl rfl rfl ⟨Nat.le_of_ble_eq_true rfl, Nat.le_of_ble_eq_true rfl⟩ (Nat.le_of_ble_eq_true rfl) ?_
  refine sp_87 hI ?_
  first | refine pm_if_neB (tgt := 12) d71_5 rfl (fun c_5 => ?_) (fun c_5 => ?_) | refine pm_if_neN (tgt := 12) d71_5 rfl (by omega) (fun c_5 => ?_) (fun c_5 => ?_) | refine pm_if_ne (tgt := 12) d71_5 rfl (fun c_5 => ?_) (fun c_5 => ?_)
  · obtain ⟨k, hk, rfl⟩ := inN_of (by omega) (by omega) c_5
    rw [if_pos c_5, nI_clamp (by omega)] at hh
    have x4 := hI.2.1.2.2.1.2.2.1 k hk
    have hko := (bd_s hI.1.1 hI.1.2.1 hk).2.2.1 
    refine pm_iload_n (i := 2) d71_12 rfl rfl ?_
    by_cases hx0 : v = nI 0
    · subst hx0
      rw [ix_nI (by decide) (by decide)] at hh
      refine pm_swIn (off := 51) (tgt := 64) d71_13 (by decide) (by decide) rfl rfl ?_
      refine pm_aload_n (i := 0) d71_64 rfl rfl ?_
      refine pm_getR d71_65 lf_10_19 rfl rfl ?_
      refine pm_getR d71_68 lf_10_212 rfl rfl ?_
      refine pm_iload_n (i := 1) d71_71 rfl rfl ?_
      refine pm_ialdN d71_72 rfl (by decide) (by omega) ?_
      rw [CI_lo hI hk]
      refine pm_iret d71_73 rfl (by first | rfl | exact nar_b _) ?_
      exact hh
    by_cases hx1 : v = nI 1
    · subst hx1
      rw [ix_nI (by decide) (by decide)] at hh
      refine pm_swIn (off := 61) (tgt := 74) d71_13 (by decide) (by decide) rfl rfl ?_
      refine pm_aload_n (i := 0) d71_74 rfl rfl ?_
      refine pm_getR d71_75 lf_10_19 rfl rfl ?_
      refine pm_getR d71_78 lf_10_215 rfl rfl ?_
      refine pm_iload_n (i := 1) d71_81 rfl rfl ?_
      refine pm_ialdN d71_82 rfl (by decide) (by omega) ?_
      rw [CI_hi hI hk]
      refine pm_iret d71_83 rfl (by first | rfl | exact nar_b _) ?_
      exact hh
    by_cases hx2 : v = nI 2
    · subst hx2
      rw [ix_nI (by decide) (by decide)] at hh
      refine pm_swIn (off := 71) (tgt := 84) d71_13 (by decide) (by decide) rfl rfl ?_
      refine pm_aload_n (i := 0) d71_84 rfl rfl ?_
      refine pm_getR d71_85 lf_10_26 rfl rfl ?_
      refine pm_getR d71_88 lf_10_218 rfl rfl ?_
      refine pm_iload_n (i := 1) d71_91 rfl rfl ?_
      refine pm_ialdN d71_92 rfl (by decide) (by omega) ?_
      rw [CI_ko hI hk]
      refine pm_iret d71_93 rfl (by first | rfl | exact nar_b _) ?_
      exact hh
    by_cases hx3 : v = nI 3
    · subst hx3
      rw [ix_nI (by decide) (by decide)] at hh
      refine pm_swIn (off := 81) (tgt := 94) d71_13 (by decide) (by decide) rfl rfl ?_
      refine pm_aload_n (i := 0) d71_94 rfl rfl ?_
      refine pm_getR d71_95 lf_10_26 rfl rfl ?_
      refine pm_aload_n (i := 0) d71_98 rfl rfl ?_
      refine pm_getR d71_99 lf_10_26 rfl rfl ?_
      refine pm_getR d71_102 lf_10_218 rfl rfl ?_
      refine pm_iload_n (i := 1) d71_105 rfl rfl ?_
      refine pm_ialdN d71_106 rfl (by decide) (by omega) ?_
      rw [CI_ko hI hk]
      refine pm_aload_n (i := 0) d71_107 rfl rfl ?_
      refine pm_getR d71_108 lf_10_40 rfl rfl ?_
      refine pm_getE d71_111 lf_10_107 rfl rfl (hI.2.2.2.1) ?_
      refine pm_callV (k2 := 24) (As := [_, _]) d71_114 lk_10_221 ok_24 rfl rfl rfl (Nat.le_of_ble_eq_true rfl) rfl rfl rfl rfl rfl ⟨Nat.le_of_ble_eq_true rfl, Nat.le_of_ble_eq_true rfl⟩ (Nat.le_of_ble_eq_true rfl) ?_
      refine sp_24 hI.1.1 hI.1.2.1 hI.2.1.2.2.1.2.2.2 hko hI.1.2.2.2.1 ?_
      refine pm_iret d71_117 rfl (by first | rfl | exact nar_b _) ?_
      exact hh
    by_cases hx4 : v = nI 4
    · subst hx4
      rw [ix_nI (by decide) (by decide)] at hh
      refine pm_swIn (off := 105) (tgt := 118) d71_13 (by decide) (by decide) rfl rfl ?_
      refine pm_aload_n (i := 0) d71_118 rfl rfl ?_
      refine pm_iload_n (i := 1) d71_119 rfl rfl ?_
      refine pm_callV (k2 := 90) (As := [_]) d71_120 lk_10_224 ok_90 rfl rfl rfl (Nat.le_of_ble_eq_true rfl) rfl rfl rfl rfl rfl ⟨Nat.le_of_ble_eq_true rfl, Nat.le_of_ble_eq_true rfl⟩ (Nat.le_of_ble_eq_true rfl) ?_
      refine sp_90 hI hk ?_
      first | refine pm_if_eqB (tgt := 130) d71_123 rfl (fun c_123 => ?_) (fun c_123 => ?_) | refine pm_if_eqN (tgt := 130) d71_123 rfl (by omega) (fun c_123 => ?_) (fun c_123 => ?_) | refine pm_if_eq (tgt := 130) d71_123 rfl (fun c_123 => ?_) (fun c_123 => ?_)
      · refine pm_iconst (v := nI 0) d71_130 (by decide) ?_
        refine pm_iret d71_131 rfl (by first | rfl | exact nar_b _) ?_
        have hh : Q (b2i (ks s k)) A := hh
        rw [c_123] at hh
        exact hh
      · refine pm_iconst (v := nI 1) d71_126 (by decide) ?_
        refine pm_goto (tgt := 131) d71_127 rfl ?_
        refine pm_iret d71_131 rfl (by first | rfl | exact nar_b _) ?_
        have hh : Q (b2i (ks s k)) A := hh
        rw [c_123] at hh
        exact hh
    by_cases hx5 : v = nI 5
    · subst hx5
      rw [ix_nI (by decide) (by decide)] at hh
      refine pm_swIn (off := 119) (tgt := 132) d71_13 (by decide) (by decide) rfl rfl ?_
      refine pm_aload_n (i := 0) d71_132 rfl rfl ?_
      refine pm_getR d71_133 lf_10_40 rfl rfl ?_
      refine pm_getR d71_136 lf_10_227 rfl rfl ?_
      refine pm_iload_n (i := 1) d71_139 rfl rfl ?_
      refine pm_zaldN d71_140 rfl (by decide) (by omega) ?_
      rw [CI_ms hI (by omega)]
      first | refine pm_if_eqB (tgt := 148) d71_141 rfl (fun c_141 => ?_) (fun c_141 => ?_) | refine pm_if_eqN (tgt := 148) d71_141 rfl (by omega) (fun c_141 => ?_) (fun c_141 => ?_) | refine pm_if_eq (tgt := 148) d71_141 rfl (fun c_141 => ?_) (fun c_141 => ?_)
      · refine pm_iconst (v := nI 0) d71_148 (by decide) ?_
        refine pm_iret d71_149 rfl (by first | rfl | exact nar_b _) ?_
        have hh : Q (b2i (sM s k)) A := hh
        rw [c_141] at hh
        exact hh
      · refine pm_iconst (v := nI 1) d71_144 (by decide) ?_
        refine pm_goto (tgt := 149) d71_145 rfl ?_
        refine pm_iret d71_149 rfl (by first | rfl | exact nar_b _) ?_
        have hh : Q (b2i (sM s k)) A := hh
        rw [c_141] at hh
        exact hh
    by_cases hx6 : v = nI 6
    · subst hx6
      rw [ix_nI (by decide) (by decide)] at hh
      refine pm_swIn (off := 137) (tgt := 150) d71_13 (by decide) (by decide) rfl rfl ?_
      refine pm_aload_n (i := 0) d71_150 rfl rfl ?_
      refine pm_getR d71_151 lf_10_26 rfl rfl ?_
      refine pm_getR d71_154 lf_10_231 rfl rfl ?_
      refine pm_iload_n (i := 1) d71_157 rfl rfl ?_
      refine pm_ialdN d71_158 rfl (by decide) (by omega) ?_
      rw [x4.1]
      refine pm_iret d71_159 rfl (by first | rfl | exact nar_b _) ?_
      exact hh
    by_cases hx7 : v = nI 7
    · subst hx7
      rw [ix_nI (by decide) (by decide)] at hh
      refine pm_swIn (off := 147) (tgt := 160) d71_13 (by decide) (by decide) rfl rfl ?_
      refine pm_aload_n (i := 0) d71_160 rfl rfl ?_
      refine pm_getR d71_161 lf_10_26 rfl rfl ?_
      refine pm_getR d71_164 lf_10_234 rfl rfl ?_
      refine pm_iload_n (i := 1) d71_167 rfl rfl ?_
      refine pm_ialdN d71_168 rfl (by decide) (by omega) ?_
      rw [x4.2.1]
      refine pm_iret d71_169 rfl (by first | rfl | exact nar_b _) ?_
      exact hh
    by_cases hx8 : v = nI 8
    · subst hx8
      rw [ix_nI (by decide) (by decide)] at hh
      refine pm_swIn (off := 157) (tgt := 170) d71_13 (by decide) (by decide) rfl rfl ?_
      refine pm_aload_n (i := 0) d71_170 rfl rfl ?_
      refine pm_iload_n (i := 1) d71_171 rfl rfl ?_
      refine pm_callV (k2 := 109) (As := [_]) d71_172 lk_10_237 ok_109 rfl rfl rfl (Nat.le_of_ble_eq_true rfl) rfl rfl rfl rfl rfl ⟨Nat.le_of_ble_eq_true rfl, Nat.le_of_ble_eq_true rfl⟩ (Nat.le_of_ble_eq_true rfl) ?_
      refine sp_109 hI hk (fun A2 f1 => ?_)
      have hh2 := h A2 (CW_keep hC (fun c hc => f1 c (by omega)) (by rw [f1 47 (by omega)]) (f1 48 (by omega)))
      unfold aStrutOf at hh2
      rw [if_pos c_5, nI_clamp (show k < 2 ^ 31 by omega), ix_nI (by decide) (by decide)] at hh2
      refine pm_iret d71_175 rfl (by first | rfl | exact nar_b _) ?_
      exact hh2
    rw [ix_out (by decide) (by decide) (fun j hj => by rcases (show j = 0 ∨ j = 1 ∨ j = 2 ∨ j = 3 ∨ j = 4 ∨ j = 5 ∨ j = 6 ∨ j = 7 ∨ j = 8 by omega) with rfl | rfl | rfl | rfl | rfl | rfl | rfl | rfl | rfl <;> assumption)] at hh
    refine pm_swOut (tgt := 176) d71_13 (sw_out 9 (by decide) (by decide) (fun j hj => by rcases (show j = 0 ∨ j = 1 ∨ j = 2 ∨ j = 3 ∨ j = 4 ∨ j = 5 ∨ j = 6 ∨ j = 7 ∨ j = 8 by omega) with rfl | rfl | rfl | rfl | rfl | rfl | rfl | rfl | rfl <;> assumption)) rfl ?_
    refine pm_sipush (v := -1001) d71_176 (by decide) ?_
    refine pm_iret d71_179 rfl (by first | rfl | exact nar_b _) ?_
    exact hh
  · rw [if_neg (by rw [c_5]; decide)] at hh 
    refine pm_sipush (v := -1001) d71_8 (by decide) ?_
    refine pm_iret d71_11 rfl (by first | rfl | exact nar_b _) ?_
    exact hh
theorem sSet_ok {s : Stt} {k : Nat} {b : Bool} (h : okS s) (hk : k < ns (sF s)) (hc : cnt (uN (sM s) k b) 432 ≤ 40) : okS (sSet s k b) := by
  refine ⟨h.1, h.2.1, h.2.2.1, h.2.2.2.1, h.2.2.2.2.1, h.2.2.2.2.2.1, h.2.2.2.2.2.2.1, fun i hi9 => ?_, hc⟩
  by_cases e : i = k
  · rw [e]; exact hk
  · have hi9 : uN (sM s) k b i = true := hi9
    rw [uN_ne e] at hi9
    exact h.2.2.2.2.2.2.2.1 i hi9
theorem SA_set {s : Stt} {k n : Nat} {b : Bool} {A : Mem} (h : SA 21 s A) (hk : k < 432) (hn : cnt (uN (sM s) k b) 432 = n) : SA 21 (sSet s k b) (mset (mset A 22 k (b2i b)) 21 5 (nI n)) := by
  refine ⟨?_, ?_, ?_, ?_, ?_, ?_, fun i hi9 => ?_⟩
  · rw [mset_ne (by decide), mset_other (by decide)]; exact h.1
  · rw [mset_ne (by decide), mset_other (by decide)]; exact h.2.1
  · rw [mset_ne (by decide), mset_other (by decide)]; exact h.2.2.1
  · rw [mset_ne (by decide), mset_other (by decide)]; exact h.2.2.2.1
  · rw [mset_ne (by decide), mset_other (by decide)]; exact h.2.2.2.2.1
  · rw [mset_at, ← hn]; rfl
  · rw [mset_other (by decide)]
    show mset A 22 k (b2i b) 22 i = b2i (uN (sM s) k b i)
    by_cases e : i = k
    · rw [e, mset_at, uN_at]
    · rw [mset_ne e, uN_ne e]
      exact h.2.2.2.2.2.2 i hi9
theorem pc_74 {σ : Sig} {u : Int32} {A : Mem} {Q : Int32 → Mem → Prop} (hC : CW σ A) (h : ∀ A2, CW (aLose σ u).2 A2 → Q (aLose σ u).1 A2) : pm_P 74 0 [(0, .ref 0), (1, .int u)] [] A Q := by
  obtain ⟨s, H, x⟩ := σ
  obtain ⟨hI, hH, hT, hX⟩ := id hC
  dsimp only at hI hH hT hX
  have hb := CI_bd hI
  have hcl := cnt_le (sM s) 432
  unfold aLose at h
  dsimp only at h
  refine pm_aload_n (i := 0) d74_0 rfl rfl ?_
  refine pm_iload_n (i := 1) d74_1 rfl rfl ?_
  refine pm_callV (k2 := 87) (As := [_]) d74_2 lk_10_209 ok_87 rfl rfl rfl (Nat.le_of_ble_eq_true rfl) rfl rfl rfl rfl rfl ⟨Nat.le_of_ble_eq_true rfl, Nat.le_of_ble_eq_true rfl⟩ (Nat.le_of_ble_eq_true rfl) ?_
  refine sp_87 hI ?_
  first | refine pm_if_neB (tgt := 12) d74_5 rfl (fun c_5 => ?_) (fun c_5 => ?_) | refine pm_if_neN (tgt := 12) d74_5 rfl (by omega) (fun c_5 => ?_) (fun c_5 => ?_) | refine pm_if_ne (tgt := 12) d74_5 rfl (fun c_5 => ?_) (fun c_5 => ?_)
  · obtain ⟨k, hk, rfl⟩ := inN_of (by omega) (by omega) c_5
    rw [if_pos c_5, nI_clamp (by omega)] at h 
    refine pm_aload_n (i := 0) d74_12 rfl rfl ?_
    refine pm_getR d74_13 lf_10_40 rfl rfl ?_
    refine pm_getR d74_16 lf_10_227 rfl rfl ?_
    refine pm_iload_n (i := 1) d74_19 rfl rfl ?_
    refine pm_zaldN d74_20 rfl (by decide) (by omega) ?_
    rw [CI_ms hI (by omega)]
    first | refine pm_if_eqB (tgt := 28) d74_21 rfl (fun c_21 => ?_) (fun c_21 => ?_) | refine pm_if_eqN (tgt := 28) d74_21 rfl (by omega) (fun c_21 => ?_) (fun c_21 => ?_) | refine pm_if_eq (tgt := 28) d74_21 rfl (fun c_21 => ?_) (fun c_21 => ?_)
    · rw [if_neg (by rw [c_21]; decide)] at h 
      refine pm_aload_n (i := 0) d74_28 rfl rfl ?_
      refine pm_getR d74_29 lf_10_40 rfl rfl ?_
      refine pm_getE d74_32 lf_10_149 rfl rfl (hI.2.2.2.2.2.2.2.1) ?_
      refine pm_bipush (v := nI 40) d74_35 (by decide) ?_
      first | refine pm_icmp_ltN (tgt := 44) d74_37 rfl (by omega) (by omega) (fun c_37 => ?_) (fun c_37 => ?_) | refine pm_icmp_lt (tgt := 44) d74_37 rfl (fun c_37 => ?_) (fun c_37 => ?_)
      · rw [if_neg (by omega)] at h 
        refine pm_aload_n (i := 0) d74_44 rfl rfl ?_
        refine pm_getR d74_45 lf_10_47 rfl rfl ?_
        refine pm_aload_n (i := 0) d74_48 rfl rfl ?_
        refine pm_getR d74_49 lf_10_40 rfl rfl ?_
        refine pm_callVv (k2 := 4) (As := [_]) d74_52 lk_10_90 ok_4 rfl rfl rfl (Nat.le_of_ble_eq_true rfl) rfl rfl rfl rfl rfl ⟨Nat.le_of_ble_eq_true rfl, Nat.le_of_ble_eq_true rfl⟩ (Nat.le_of_ble_eq_true rfl) ?_
        refine sp_4 hH hI.2.2 hI.1 (fun A1 f1 f2 => ?_)
        have hI1 : CI s A1 := CI_keep hI (fun c hc => f1 c (by omega))
        refine pm_aload_n (i := 0) d74_55 rfl rfl ?_
        refine pm_iload_n (i := 1) d74_56 rfl rfl ?_
        refine pm_callV (k2 := 105) (As := [_]) d74_57 lk_10_262 ok_105 rfl rfl rfl (Nat.le_of_ble_eq_true rfl) rfl rfl rfl rfl rfl ⟨Nat.le_of_ble_eq_true rfl, Nat.le_of_ble_eq_true rfl⟩ (Nat.le_of_ble_eq_true rfl) ?_
        refine sp_105 hI1 hk (fun A2 f3 => ?_)
        have hI2 : CI s A2 := CI_keep hI1 (fun c hc => f3 c (by omega))
        refine pm_istore_n (i := 2) (L2 := [(0, _), (1, _), (2, _)]) d74_60 rfl (by decide) rfl ?_
        refine pm_aload_n (i := 0) d74_61 rfl rfl ?_
        refine pm_getR d74_62 lf_10_40 rfl rfl ?_
        refine pm_iload_n (i := 1) d74_65 rfl rfl ?_
        refine pm_callVv (k2 := 41) (As := [_]) d74_66 lk_10_265 ok_41 rfl rfl rfl (Nat.le_of_ble_eq_true rfl) rfl rfl rfl rfl rfl ⟨Nat.le_of_ble_eq_true rfl, Nat.le_of_ble_eq_true rfl⟩ (Nat.le_of_ble_eq_true rfl) ?_
        refine sp_41 (c := cnt (sM s) 432) (by omega) hI2.2.2.2.2.2.2.2.1 ?_
        have hcs : cnt (uN (sM s) k true) 432 = cnt (sM s) 432 + 1 := cnt_set (show k < 432 by omega) c_21 (uN_at _ _ _) (fun i _ e => (uN_ne e).symm)
        refine pm_iload_n (i := 2) d74_69 rfl rfl ?_
        refine pm_iret d74_70 rfl (by first | rfl | exact nar_b _) ?_
        refine h _ (CW_mk (sSet_ok hI.1 hk (by omega)) (Bt_keep hI2.2.1 (fun c _ hc => by rw [mset_other (by omega), mset_other (by omega)])) (SA_set hI2.2.2 (by omega) hcs) (HI_keep f2 (fun c q1 q2 => by rw [mset_other (by omega), mset_other (by omega), f3 c (by omega)])) (TXA_keep hT (by rw [mset_other (by omega), mset_other (by omega), f3 47 (by omega), f1 47 (by omega)]) (by rw [mset_other (by omega), mset_other (by omega), f3 48 (by omega), f1 48 (by omega)])) hX)
      · rw [if_pos c_37] at h 
        refine pm_sipush (v := -1003) d74_40 (by decide) ?_
        refine pm_iret d74_43 rfl (by first | rfl | exact nar_b _) ?_
        exact h A hC
    · rw [if_pos c_21] at h 
      refine pm_sipush (v := -1002) d74_24 (by decide) ?_
      refine pm_iret d74_27 rfl (by first | rfl | exact nar_b _) ?_
      exact h A hC
  · rw [if_neg (by rw [c_5]; decide)] at h 
    refine pm_sipush (v := -1001) d74_8 (by decide) ?_
    refine pm_iret d74_11 rfl (by first | rfl | exact nar_b _) ?_
    exact h A hC
theorem pc_75 {σ : Sig} {u : Int32} {A : Mem} {Q : Int32 → Mem → Prop} (hC : CW σ A) (h : ∀ A2, CW (aPut σ u).2 A2 → Q (aPut σ u).1 A2) : pm_P 75 0 [(0, .ref 0), (1, .int u)] [] A Q := by
  obtain ⟨s, H, x⟩ := σ
  obtain ⟨hI, hH, hT, hX⟩ := id hC
  dsimp only at hI hH hT hX
  have hb := CI_bd hI
  have hcl := cnt_le (sM s) 432
  unfold aPut at h
  dsimp only at h
  refine pm_aload_n (i := 0) d75_0 rfl rfl ?_
  refine pm_iload_n (i := 1) d75_1 rfl rfl ?_
  refine pm_callV (k2 := 87) (As := [_]) d75_2 lk_10_209 ok_87 rfl rfl rfl (Nat.le_of_ble_eq_true rfl) rfl rfl rfl rfl rfl ⟨Nat.le_of_ble_eq_true rfl, Nat.le_of_ble_eq_true rfl⟩ (Nat.le_of_ble_eq_true rfl) ?_
  refine sp_87 hI ?_
  first | refine pm_if_neB (tgt := 12) d75_5 rfl (fun c_5 => ?_) (fun c_5 => ?_) | refine pm_if_neN (tgt := 12) d75_5 rfl (by omega) (fun c_5 => ?_) (fun c_5 => ?_) | refine pm_if_ne (tgt := 12) d75_5 rfl (fun c_5 => ?_) (fun c_5 => ?_)
  · obtain ⟨k, hk, rfl⟩ := inN_of (by omega) (by omega) c_5
    rw [if_pos c_5, nI_clamp (by omega)] at h 
    refine pm_aload_n (i := 0) d75_12 rfl rfl ?_
    refine pm_getR d75_13 lf_10_40 rfl rfl ?_
    refine pm_getR d75_16 lf_10_227 rfl rfl ?_
    refine pm_iload_n (i := 1) d75_19 rfl rfl ?_
    refine pm_zaldN d75_20 rfl (by decide) (by omega) ?_
    rw [CI_ms hI (by omega)]
    first | refine pm_if_neB (tgt := 28) d75_21 rfl (fun c_21 => ?_) (fun c_21 => ?_) | refine pm_if_neN (tgt := 28) d75_21 rfl (by omega) (fun c_21 => ?_) (fun c_21 => ?_) | refine pm_if_ne (tgt := 28) d75_21 rfl (fun c_21 => ?_) (fun c_21 => ?_)
    · rw [if_pos c_21] at h
      have hcs : cnt (sM s) 432 = cnt (uN (sM s) k false) 432 + 1 := cnt_set (show k < 432 by omega) (uN_at _ _ _) c_21 (fun i _ e => uN_ne e)
      have h40 := hI.1.2.2.2.2.2.2.2.2 
      refine pm_aload_n (i := 0) d75_28 rfl rfl ?_
      refine pm_getR d75_29 lf_10_47 rfl rfl ?_
      refine pm_aload_n (i := 0) d75_32 rfl rfl ?_
      refine pm_getR d75_33 lf_10_40 rfl rfl ?_
      refine pm_callVv (k2 := 4) (As := [_]) d75_36 lk_10_90 ok_4 rfl rfl rfl (Nat.le_of_ble_eq_true rfl) rfl rfl rfl rfl rfl ⟨Nat.le_of_ble_eq_true rfl, Nat.le_of_ble_eq_true rfl⟩ (Nat.le_of_ble_eq_true rfl) ?_
      refine sp_4 hH hI.2.2 hI.1 (fun A1 f1 f2 => ?_)
      have hI1 : CI s A1 := CI_keep hI (fun c hc => f1 c (by omega))
      refine pm_aload_n (i := 0) d75_39 rfl rfl ?_
      refine pm_getR d75_40 lf_10_40 rfl rfl ?_
      refine pm_iload_n (i := 1) d75_43 rfl rfl ?_
      refine pm_callVv (k2 := 42) (As := [_]) d75_44 lk_10_268 ok_42 rfl rfl rfl (Nat.le_of_ble_eq_true rfl) rfl rfl rfl rfl rfl ⟨Nat.le_of_ble_eq_true rfl, Nat.le_of_ble_eq_true rfl⟩ (Nat.le_of_ble_eq_true rfl) ?_
      refine sp_42 (c := cnt (sM s) 432) (by omega) (by omega) hI1.2.2.2.2.2.2.2.1 ?_
      have hI2 : CI (sSet s k false) (mset (mset A1 22 k (nI 0)) 21 5 (nI (cnt (sM s) 432 - 1))) := ⟨sSet_ok hI.1 hk (by omega), Bt_keep hI1.2.1 (fun c _ hc => by rw [mset_other (by omega), mset_other (by omega)]), SA_set (b := false) hI1.2.2 (by omega) (by omega)⟩
      refine pm_aload_n (i := 0) d75_47 rfl rfl ?_
      refine pm_iload_n (i := 1) d75_48 rfl rfl ?_
      refine pm_callV (k2 := 105) (As := [_]) d75_49 lk_10_262 ok_105 rfl rfl rfl (Nat.le_of_ble_eq_true rfl) rfl rfl rfl rfl rfl ⟨Nat.le_of_ble_eq_true rfl, Nat.le_of_ble_eq_true rfl⟩ (Nat.le_of_ble_eq_true rfl) ?_
      refine sp_105 hI2 hk (fun A2 f3 => ?_)
      have hI3 : CI (sSet s k false) A2 := CI_keep hI2 (fun c hc => f3 c (by omega))
      refine pm_iret d75_52 rfl (by first | rfl | exact nar_b _) ?_
      refine h _ (CW_mk hI3.1 hI3.2.1 hI3.2.2 (HI_keep f2 (fun c q1 q2 => by rw [f3 c (by omega), mset_other (by omega), mset_other (by omega)])) (TXA_keep hT (by rw [f3 47 (by omega), mset_other (by omega), mset_other (by omega), f1 47 (by omega)]) (by rw [f3 48 (by omega), mset_other (by omega), mset_other (by omega), f1 48 (by omega)])) hX)
    · rw [if_neg (by rw [c_21]; decide)] at h 
      refine pm_sipush (v := -1002) d75_24 (by decide) ?_
      refine pm_iret d75_27 rfl (by first | rfl | exact nar_b _) ?_
      exact h A hC
  · rw [if_neg (by rw [c_5]; decide)] at h 
    refine pm_sipush (v := -1001) d75_8 (by decide) ?_
    refine pm_iret d75_11 rfl (by first | rfl | exact nar_b _) ?_
    exact h A hC
theorem pc_76 {σ : Sig} {A : Mem} {Q : Int32 → Mem → Prop} (hC : CW σ A) (h : ∀ A2, CW (aMend σ).2 A2 → Q (aMend σ).1 A2) : pm_P 76 0 [(0, .ref 0)] [] A Q := by
  obtain ⟨s, H, x⟩ := σ
  obtain ⟨hI, hH, hT, hX⟩ := id hC
  dsimp only at hI hH hT hX
  unfold aMend at h
  dsimp only at h
  refine pm_aload_n (i := 0) d76_0 rfl rfl ?_
  refine pm_getR d76_1 lf_10_47 rfl rfl ?_
  refine pm_aload_n (i := 0) d76_4 rfl rfl ?_
  refine pm_getR d76_5 lf_10_40 rfl rfl ?_
  refine pm_callVv (k2 := 4) (As := [_]) d76_8 lk_10_90 ok_4 rfl rfl rfl (Nat.le_of_ble_eq_true rfl) rfl rfl rfl rfl rfl ⟨Nat.le_of_ble_eq_true rfl, Nat.le_of_ble_eq_true rfl⟩ (Nat.le_of_ble_eq_true rfl) ?_
  refine sp_4 hH hI.2.2 hI.1 (fun A1 f1 f2 => ?_)
  refine pm_aload_n (i := 0) d76_11 rfl rfl ?_
  refine pm_getR d76_12 lf_10_40 rfl rfl ?_
  refine pm_getE (v := nI (cnt (sM s) 432)) d76_15 lf_10_149 rfl rfl (by rw [f1 21 (by omega), hI.2.2.2.2.2.2.2.1]) ?_
  refine pm_istore_n (i := 1) (L2 := [(0, _), (1, _)]) d76_18 rfl (by decide) rfl ?_
  refine pm_aload_n (i := 0) d76_19 rfl rfl ?_
  refine pm_getR d76_20 lf_10_40 rfl rfl ?_
  refine pm_callVv (k2 := 43) (As := []) d76_23 lk_10_101 ok_43 rfl rfl rfl (Nat.le_of_ble_eq_true rfl) rfl rfl rfl rfl rfl ⟨Nat.le_of_ble_eq_true rfl, Nat.le_of_ble_eq_true rfl⟩ (Nat.le_of_ble_eq_true rfl) ?_
  refine sp_43 (fun A2 f3 f4 f5 f6 => ?_)
  refine pm_iload_n (i := 1) d76_26 rfl rfl ?_
  refine pm_iret d76_27 rfl (by first | rfl | exact nar_b _) ?_
  refine h A2 (CW_mk ⟨hI.1.1, hI.1.2.1, hI.1.2.2.1, hI.1.2.2.2.1, hI.1.2.2.2.2.1, hI.1.2.2.2.2.2.1, hI.1.2.2.2.2.2.2.1, none_ok (sF s)⟩ (Bt_keep hI.2.1 (fun c _ hc => by rw [f3 c (by omega) (by omega)]; exact f1 c (by omega))) ⟨?_, ?_, ?_, ?_, ?_, ?_, fun i hi9 => ?_⟩ (HI_keep f2 (fun c q1 q2 => f3 c (by omega) (by omega))) (TXA_keep hT ?_ ?_) hX)
  · rw [f4 0 (by decide), f1 21 (by omega)]; exact hI.2.2.1
  · rw [f4 1 (by decide), f1 21 (by omega)]; exact hI.2.2.2.1
  · rw [f4 2 (by decide), f1 21 (by omega)]; exact hI.2.2.2.2.1
  · rw [f4 3 (by decide), f1 21 (by omega)]; exact hI.2.2.2.2.2.1
  · rw [f4 4 (by decide), f1 21 (by omega)]; exact hI.2.2.2.2.2.2.1
  · rw [f5]; exact congrArg nI (cnt_non (p := none9) (fun _ _ => rfl)).symm
  · rw [f6 i hi9]; rfl
  · rw [f3 47 (by omega) (by omega), f1 47 (by omega)]
  · rw [f3 48 (by omega) (by omega), f1 48 (by omega)]
theorem wst_lt {s : Stt} : ∀ n w, wst s n = some w → w < n := by
  intro n
  induction n with
  | zero => intro w h; cases h
  | succ n ih =>
    intro w h
    simp only [wst] at h
    by_cases e : (ks s n && !sM s n) = true
    · rw [if_pos e] at h
      cases e2 : wst s n with
      | none => rw [e2] at h; cases h; omega
      | some w2 =>
        rw [e2] at h
        dsimp only at h
        have := ih w2 e2
        by_cases e3 : clo s w2 < clo s n
        · rw [if_pos e3] at h; cases h; omega
        · rw [if_neg e3] at h; cases h; omega
    · rw [if_neg e] at h
      have := ih w h
      omega
theorem pc_77 {σ : Sig} {A : Mem} {Q : Int32 → Mem → Prop} (hC : CW σ A) (h : ∀ A2, CW σ A2 → Q (aWorst σ.1) A2) : pm_P 77 0 [(0, .ref 0)] [] A Q := by
  obtain ⟨s, H, x⟩ := σ
  obtain ⟨hI, hH, hT, hX⟩ := id hC
  dsimp only at hI hH hT hX h
  have hb := CI_bd hI
  have hcl : ∀ i, clo s i ≤ nf (sF s) := fun i => cnt_le _ _
  unfold aWorst at h
  have lp : ∀ A1 : Mem, (∀ c, c ≠ 51 → A1 c = A c) → (∀ i, i < 432 → A1 51 i = nI (clo s i)) → ∀ i, i ≤ ns (sF s) → pm_P 77 8 [(0, .ref 0), (1, .int (opI (-1) (wst s i))), (2, .int (nI i))] [] A1 Q := by
    intro A1 g1 g2
    have hI1 : CI s A1 := CI_keep hI (fun c hc => g1 c (by omega))
    have hC1 : CW (s, H, x) A1 := CW_keep hC (fun c hc => g1 c (by omega)) (by rw [g1 47 (by decide)]) (g1 48 (by decide))
    refine up_ind (fun i hi9 ih => ?_)
    by_cases hlt : i < ns (sF s)
    · have ih := ih hlt
      simp only [wst] at ih
      have d1 := hcl i
      cases hw : wst s i with
      | none =>
        rw [hw] at ih
        refine pm_iload_n (i := 2) d77_8 rfl rfl ?_
        refine pm_aload_n (i := 0) d77_9 rfl rfl ?_
        refine pm_getR d77_10 lf_10_19 rfl rfl ?_
        refine pm_getE d77_13 lf_10_127 rfl rfl (CI_ns hI1) ?_
        first | refine pm_icmp_geN (tgt := 70) d77_16 rfl (by omega) (by omega) (fun c_16 => ?_) (fun c_16 => ?_) | refine pm_icmp_ge (tgt := 70) d77_16 rfl (fun c_16 => ?_) (fun c_16 => ?_)
        · omega
        · refine pm_aload_n (i := 0) d77_19 rfl rfl ?_
          refine pm_iload_n (i := 2) d77_20 rfl rfl ?_
          refine pm_callV (k2 := 90) (As := [_]) d77_21 lk_10_224 ok_90 rfl rfl rfl (Nat.le_of_ble_eq_true rfl) rfl rfl rfl rfl rfl ⟨Nat.le_of_ble_eq_true rfl, Nat.le_of_ble_eq_true rfl⟩ (Nat.le_of_ble_eq_true rfl) ?_
          refine sp_90 hI1 hlt ?_
          first | refine pm_if_eqB (tgt := 64) d77_24 rfl (fun c_24 => ?_) (fun c_24 => ?_) | refine pm_if_eqN (tgt := 64) d77_24 rfl (by omega) (fun c_24 => ?_) (fun c_24 => ?_) | refine pm_if_eq (tgt := 64) d77_24 rfl (fun c_24 => ?_) (fun c_24 => ?_)
          · first | refine pm_iincN 1 (L2 := [(0, _), (1, _), (2, _)]) d77_64 rfl (by decide) rfl ?_ | refine pm_iinc (L2 := [(0, _), (1, _), (2, _)]) d77_64 rfl rfl (by decide) rfl ?_
            refine pm_goto (tgt := 8) d77_67 rfl ?_
            rw [if_neg (by first | simp [c_24, c_36] | simp [c_24])] at ih
            exact ih
          · refine pm_aload_n (i := 0) d77_27 rfl rfl ?_
            refine pm_getR d77_28 lf_10_40 rfl rfl ?_
            refine pm_getR d77_31 lf_10_227 rfl rfl ?_
            refine pm_iload_n (i := 2) d77_34 rfl rfl ?_
            refine pm_zaldN d77_35 rfl (by decide) (by omega) ?_
            rw [CI_ms hI1 (by omega)]
            first | refine pm_if_eqB (tgt := 42) d77_36 rfl (fun c_36 => ?_) (fun c_36 => ?_) | refine pm_if_eqN (tgt := 42) d77_36 rfl (by omega) (fun c_36 => ?_) (fun c_36 => ?_) | refine pm_if_eq (tgt := 42) d77_36 rfl (fun c_36 => ?_) (fun c_36 => ?_)
            · refine pm_iload_n (i := 1) d77_42 rfl rfl ?_
              refine pm_iconst (v := -1) d77_43 (by decide) ?_
              refine pm_icmp_eq (tgt := 62) d77_44 rfl (fun c_44 => ?_) (fun c_44 => ?_)
              · refine pm_iload_n (i := 2) d77_62 rfl rfl ?_
                refine pm_istore_n (i := 1) (L2 := [(0, _), (1, _), (2, _)]) d77_63 rfl (by decide) rfl ?_
                first | refine pm_iincN 1 (L2 := [(0, _), (1, _), (2, _)]) d77_64 rfl (by decide) rfl ?_ | refine pm_iinc (L2 := [(0, _), (1, _), (2, _)]) d77_64 rfl rfl (by decide) rfl ?_
                refine pm_goto (tgt := 8) d77_67 rfl ?_
                rw [if_pos (by rw [c_24, c_36]; rfl)] at ih
                exact ih
              · exact absurd rfl c_44
            · refine pm_goto (tgt := 64) d77_39 rfl ?_
              first | refine pm_iincN 1 (L2 := [(0, _), (1, _), (2, _)]) d77_64 rfl (by decide) rfl ?_ | refine pm_iinc (L2 := [(0, _), (1, _), (2, _)]) d77_64 rfl rfl (by decide) rfl ?_
              refine pm_goto (tgt := 8) d77_67 rfl ?_
              rw [if_neg (by first | simp [c_24, c_36] | simp [c_24])] at ih
              exact ih
      | some w =>
        rw [hw] at ih
        have hwl := wst_lt i w hw
        have d2 := hcl w
        dsimp only at ih
        rw [show opI (-1) (some w) = nI w from rfl]
        refine pm_iload_n (i := 2) d77_8 rfl rfl ?_
        refine pm_aload_n (i := 0) d77_9 rfl rfl ?_
        refine pm_getR d77_10 lf_10_19 rfl rfl ?_
        refine pm_getE d77_13 lf_10_127 rfl rfl (CI_ns hI1) ?_
        first | refine pm_icmp_geN (tgt := 70) d77_16 rfl (by omega) (by omega) (fun c_16 => ?_) (fun c_16 => ?_) | refine pm_icmp_ge (tgt := 70) d77_16 rfl (fun c_16 => ?_) (fun c_16 => ?_)
        · omega
        · refine pm_aload_n (i := 0) d77_19 rfl rfl ?_
          refine pm_iload_n (i := 2) d77_20 rfl rfl ?_
          refine pm_callV (k2 := 90) (As := [_]) d77_21 lk_10_224 ok_90 rfl rfl rfl (Nat.le_of_ble_eq_true rfl) rfl rfl rfl rfl rfl ⟨Nat.le_of_ble_eq_true rfl, Nat.le_of_ble_eq_true rfl⟩ (Nat.le_of_ble_eq_true rfl) ?_
          refine sp_90 hI1 hlt ?_
          first | refine pm_if_eqB (tgt := 64) d77_24 rfl (fun c_24 => ?_) (fun c_24 => ?_) | refine pm_if_eqN (tgt := 64) d77_24 rfl (by omega) (fun c_24 => ?_) (fun c_24 => ?_) | refine pm_if_eq (tgt := 64) d77_24 rfl (fun c_24 => ?_) (fun c_24 => ?_)
          · first | refine pm_iincN 1 (L2 := [(0, _), (1, _), (2, _)]) d77_64 rfl (by decide) rfl ?_ | refine pm_iinc (L2 := [(0, _), (1, _), (2, _)]) d77_64 rfl rfl (by decide) rfl ?_
            refine pm_goto (tgt := 8) d77_67 rfl ?_
            rw [if_neg (by first | simp [c_24, c_36] | simp [c_24])] at ih
            exact ih
          · refine pm_aload_n (i := 0) d77_27 rfl rfl ?_
            refine pm_getR d77_28 lf_10_40 rfl rfl ?_
            refine pm_getR d77_31 lf_10_227 rfl rfl ?_
            refine pm_iload_n (i := 2) d77_34 rfl rfl ?_
            refine pm_zaldN d77_35 rfl (by decide) (by omega) ?_
            rw [CI_ms hI1 (by omega)]
            first | refine pm_if_eqB (tgt := 42) d77_36 rfl (fun c_36 => ?_) (fun c_36 => ?_) | refine pm_if_eqN (tgt := 42) d77_36 rfl (by omega) (fun c_36 => ?_) (fun c_36 => ?_) | refine pm_if_eq (tgt := 42) d77_36 rfl (fun c_36 => ?_) (fun c_36 => ?_)
            · refine pm_iload_n (i := 1) d77_42 rfl rfl ?_
              refine pm_iconst (v := -1) d77_43 (by decide) ?_
              refine pm_icmp_eq (tgt := 62) d77_44 rfl (fun c_44 => ?_) (fun c_44 => ?_)
              · exact absurd c_44 (by intro q; have := nI_pos (n := w) (by omega); rw [q] at this; exact this (by decide))
              · refine pm_aload_n (i := 0) d77_47 rfl rfl ?_
                refine pm_getR d77_48 lf_10_79 rfl rfl ?_
                refine pm_iload_n (i := 2) d77_51 rfl rfl ?_
                refine pm_ialdN d77_52 rfl (by decide) (by omega) ?_
                rw [g2 i (by omega)]
                refine pm_aload_n (i := 0) d77_53 rfl rfl ?_
                refine pm_getR d77_54 lf_10_79 rfl rfl ?_
                refine pm_iload_n (i := 1) d77_57 rfl rfl ?_
                refine pm_ialdN d77_58 rfl (by decide) (by omega) ?_
                rw [g2 w (by omega)]
                first | refine pm_icmp_leN (tgt := 64) d77_59 rfl (by omega) (by omega) (fun c_59 => ?_) (fun c_59 => ?_) | refine pm_icmp_le (tgt := 64) d77_59 rfl (fun c_59 => ?_) (fun c_59 => ?_)
                · first | refine pm_iincN 1 (L2 := [(0, _), (1, _), (2, _)]) d77_64 rfl (by decide) rfl ?_ | refine pm_iinc (L2 := [(0, _), (1, _), (2, _)]) d77_64 rfl rfl (by decide) rfl ?_
                  refine pm_goto (tgt := 8) d77_67 rfl ?_
                  rw [if_pos (by rw [c_24, c_36]; rfl), if_neg (by omega)] at ih
                  exact ih
                · refine pm_iload_n (i := 2) d77_62 rfl rfl ?_
                  refine pm_istore_n (i := 1) (L2 := [(0, _), (1, _), (2, _)]) d77_63 rfl (by decide) rfl ?_
                  first | refine pm_iincN 1 (L2 := [(0, _), (1, _), (2, _)]) d77_64 rfl (by decide) rfl ?_ | refine pm_iinc (L2 := [(0, _), (1, _), (2, _)]) d77_64 rfl rfl (by decide) rfl ?_
                  refine pm_goto (tgt := 8) d77_67 rfl ?_
                  rw [if_pos (by rw [c_24, c_36]; rfl), if_pos (by omega)] at ih
                  exact ih
            · refine pm_goto (tgt := 64) d77_39 rfl ?_
              first | refine pm_iincN 1 (L2 := [(0, _), (1, _), (2, _)]) d77_64 rfl (by decide) rfl ?_ | refine pm_iinc (L2 := [(0, _), (1, _), (2, _)]) d77_64 rfl rfl (by decide) rfl ?_
              refine pm_goto (tgt := 8) d77_67 rfl ?_
              rw [if_neg (by first | simp [c_24, c_36] | simp [c_24])] at ih
              exact ih
    · have ei : i = ns (sF s) := by omega
      subst ei
      have hop := opI_ne (d := -1004) (o := wst s (ns (sF s))) (fun k hk => by have := wst_lt _ k hk; omega)
      have hh := h A1 hC1
      refine pm_iload_n (i := 2) d77_8 rfl rfl ?_
      refine pm_aload_n (i := 0) d77_9 rfl rfl ?_
      refine pm_getR d77_10 lf_10_19 rfl rfl ?_
      refine pm_getE d77_13 lf_10_127 rfl rfl (CI_ns hI1) ?_
      first | refine pm_icmp_geN (tgt := 70) d77_16 rfl (by omega) (by omega) (fun c_16 => ?_) (fun c_16 => ?_) | refine pm_icmp_ge (tgt := 70) d77_16 rfl (fun c_16 => ?_) (fun c_16 => ?_)
      · refine pm_iload_n (i := 1) d77_70 rfl rfl ?_
        refine pm_iconst (v := -1) d77_71 (by decide) ?_
        refine pm_icmp_ne (tgt := 81) d77_72 rfl (fun c_72 => ?_) (fun c_72 => ?_)
        · refine pm_iload_n (i := 1) d77_81 rfl rfl ?_
          refine pm_iret d77_82 rfl (by first | rfl | exact nar_b _) ?_
          rw [← hop.2 c_72] at hh
          exact hh
        · refine pm_sipush (v := -1004) d77_75 (by decide) ?_
          refine pm_goto (tgt := 82) d77_78 rfl ?_
          refine pm_iret d77_82 rfl (by first | rfl | exact nar_b _) ?_
          rw [hop.1 c_72] at hh
          exact hh
      · omega
  refine pm_aload_n (i := 0) d77_0 rfl rfl ?_
  refine pm_callVv (k2 := 104) (As := []) d77_1 lk_10_271 ok_104 rfl rfl rfl (Nat.le_of_ble_eq_true rfl) rfl rfl rfl rfl rfl ⟨Nat.le_of_ble_eq_true rfl, Nat.le_of_ble_eq_true rfl⟩ (Nat.le_of_ble_eq_true rfl) ?_
  refine sp_104 hI (fun A1 g1 g2 => ?_)
  refine pm_iconst (v := -1) d77_4 (by decide) ?_
  refine pm_istore_n (i := 1) (L2 := [(0, _), (1, _)]) d77_5 rfl (by decide) rfl ?_
  refine pm_iconst (v := nI 0) d77_6 (by decide) ?_
  refine pm_istore_n (i := 2) (L2 := [(0, _), (1, _), (2, _)]) d77_7 rfl (by decide) rfl ?_
  exact lp A1 g1 g2 0 (Nat.zero_le _)
theorem pc_78 {σ : Sig} {v : Int32} {A : Mem} {Q : Int32 → Mem → Prop} (hC : CW σ A) (h : ∀ A2, CW σ A2 → Q (aStk σ.1 v) A2) : pm_P 78 0 [(0, .ref 0), (1, .int v)] [] A Q := by
  obtain ⟨s, H, x⟩ := σ
  obtain ⟨hI, hH, hT, hX⟩ := id hC
  dsimp only at hI hH hT hX h
  obtain ⟨F1, F6, R1, R2, B1, B2, W1, -⟩ := hI.1
  unfold aStk at h
  refine pm_iload_n (i := 1) d78_0 rfl rfl ?_
  refine pm_iconst (v := nI 0) d78_1 (by decide) ?_
  refine pm_iconst (v := nI 3) d78_2 (by decide) ?_
  refine pm_callS (k2 := 84) (As := [_, _, _]) d78_3 lk_10_86 ok_84 rfl rfl rfl (Nat.le_of_ble_eq_true rfl) rfl rfl ⟨Nat.le_of_ble_eq_true rfl, Nat.le_of_ble_eq_true rfl⟩ (Nat.le_of_ble_eq_true rfl) ?_
  refine sp_84 ?_
  rw [wi_def]
  first | refine pm_if_neB (tgt := 13) d78_6 rfl (fun c_6 => ?_) (fun c_6 => ?_) | refine pm_if_neN (tgt := 13) d78_6 rfl (by omega) (fun c_6 => ?_) (fun c_6 => ?_) | refine pm_if_ne (tgt := 13) d78_6 rfl (fun c_6 => ?_) (fun c_6 => ?_)
  · rw [if_pos c_6] at h 
    refine pm_aload_n (i := 0) d78_13 rfl rfl ?_
    refine pm_aload_n (i := 0) d78_14 rfl rfl ?_
    refine pm_getR d78_15 lf_10_40 rfl rfl ?_
    refine pm_getE d78_18 lf_10_118 rfl rfl (hI.2.2.2.2.2.1) ?_
    refine pm_aload_n (i := 0) d78_21 rfl rfl ?_
    refine pm_getR d78_22 lf_10_40 rfl rfl ?_
    refine pm_getE d78_25 lf_10_121 rfl rfl (hI.2.2.2.2.2.2.1) ?_
    refine pm_callV (k2 := 108) (As := [_, _]) d78_28 lk_10_114 ok_108 rfl rfl rfl (Nat.le_of_ble_eq_true rfl) rfl rfl rfl rfl rfl ⟨Nat.le_of_ble_eq_true rfl, Nat.le_of_ble_eq_true rfl⟩ (Nat.le_of_ble_eq_true rfl) ?_
    refine sp_108 hI B1 B2 W1 (fun A2 f1 f2 f3 f4 => ?_)
    have hh := h A2 (CW_keep hC (fun c hc => f1 c (by omega)) (by rw [f1 47 (by omega)]) (f1 48 (by omega)))
    first | refine pm_if_neB (tgt := 38) d78_31 rfl (fun c_31 => ?_) (fun c_31 => ?_) | refine pm_if_neN (tgt := 38) d78_31 rfl (by omega) (fun c_31 => ?_) (fun c_31 => ?_) | refine pm_if_ne (tgt := 38) d78_31 rfl (fun c_31 => ?_) (fun c_31 => ?_)
    · rw [if_pos c_31] at hh
      have f5 := f4 c_31
      have hsw := swn_le (S := sW s) F1 F6 R1 R2 (show 1 ≤ sB s by omega) (of_decide_eq_true c_31) 
      refine pm_iload_n (i := 1) d78_38 rfl rfl ?_
      by_cases hx0 : v = nI 0
      · subst hx0
        rw [ix_nI (by decide) (by decide)] at hh
        refine pm_swIn (off := 25) (tgt := 64) d78_39 (by decide) (by decide) rfl rfl ?_
        refine pm_aload_n (i := 0) d78_64 rfl rfl ?_
        refine pm_getR d78_65 lf_10_61 rfl rfl ?_
        refine pm_getE (v := nI (swn s (sR s) (sB s) (sW s)).1) d78_68 lf_10_124 rfl rfl (f5.1) ?_
        refine pm_iret d78_71 rfl (by first | rfl | exact nar_b _) ?_
        exact hh
      by_cases hx1 : v = nI 1
      · subst hx1
        rw [ix_nI (by decide) (by decide)] at hh
        refine pm_swIn (off := 33) (tgt := 72) d78_39 (by decide) (by decide) rfl rfl ?_
        refine pm_aload_n (i := 0) d78_72 rfl rfl ?_
        refine pm_getR d78_73 lf_10_61 rfl rfl ?_
        refine pm_callV (k2 := 37) (As := []) d78_76 lk_10_274 ok_37 rfl rfl rfl (Nat.le_of_ble_eq_true rfl) rfl rfl rfl rfl rfl ⟨Nat.le_of_ble_eq_true rfl, Nat.le_of_ble_eq_true rfl⟩ (Nat.le_of_ble_eq_true rfl) ?_
        refine sp_37 f5 (by omega) ?_
        refine pm_iret d78_79 rfl (by first | rfl | exact nar_b _) ?_
        exact hh
      by_cases hx2 : v = nI 2
      · subst hx2
        rw [ix_nI (by decide) (by decide)] at hh
        refine pm_swIn (off := 41) (tgt := 80) d78_39 (by decide) (by decide) rfl rfl ?_
        refine pm_aload_n (i := 0) d78_80 rfl rfl ?_
        refine pm_getR d78_81 lf_10_61 rfl rfl ?_
        refine pm_callV (k2 := 38) (As := []) d78_84 lk_10_277 ok_38 rfl rfl rfl (Nat.le_of_ble_eq_true rfl) rfl rfl rfl rfl rfl ⟨Nat.le_of_ble_eq_true rfl, Nat.le_of_ble_eq_true rfl⟩ (Nat.le_of_ble_eq_true rfl) ?_
        refine sp_38 f5 (by omega) (fun b hb9 => by have := (hsw.2.2 b hb9).2; omega) ?_
        refine pm_iret d78_87 rfl (by first | rfl | exact nar_b _) ?_
        exact hh
      rw [show ix v 4 = 3 by
        obtain ⟨n, -, hn, rfl⟩ := wi_of (by decide) (by decide) c_6
        have n0 : ¬ n = 0 := fun q => hx0 (by rw [q])
        have n1 : ¬ n = 1 := fun q => hx1 (by rw [q])
        have n2 : ¬ n = 2 := fun q => hx2 (by rw [q])
        rw [show n = 3 by omega]
        exact ix_nI (by decide) (by decide)] at hh
      refine pm_swOut (tgt := 88) d78_39 (sw_out 3 (by decide) (by decide) (fun j hj => by rcases (show j = 0 ∨ j = 1 ∨ j = 2 by omega) with rfl | rfl | rfl <;> assumption)) rfl ?_
      refine pm_aload_n (i := 0) d78_88 rfl rfl ?_
      refine pm_getR d78_89 lf_10_61 rfl rfl ?_
      refine pm_callV (k2 := 36) (As := []) d78_92 lk_10_280 ok_36 rfl rfl rfl (Nat.le_of_ble_eq_true rfl) rfl rfl rfl rfl rfl ⟨Nat.le_of_ble_eq_true rfl, Nat.le_of_ble_eq_true rfl⟩ (Nat.le_of_ble_eq_true rfl) ?_
      refine sp_36 F1 F6 f2 f3 ?_
      refine pm_iret d78_95 rfl (by first | rfl | exact nar_b _) ?_
      exact hh
    · rw [if_neg (by rw [c_31]; decide)] at hh 
      refine pm_sipush (v := -1002) d78_34 (by decide) ?_
      refine pm_iret d78_37 rfl (by first | rfl | exact nar_b _) ?_
      exact hh
  · rw [if_neg (by rw [c_6]; decide)] at h 
    refine pm_sipush (v := -1001) d78_9 (by decide) ?_
    refine pm_iret d78_12 rfl (by first | rfl | exact nar_b _) ?_
    exact h A hC
theorem pc_79 {σ : Sig} {v : Int32} {A : Mem} {Q : Int32 → Mem → Prop} (hC : CW σ A) (h : ∀ A2, CW σ A2 → Q (aRadFor σ.1 v) A2) : pm_P 79 0 [(0, .ref 0), (1, .int v)] [] A Q := by
  obtain ⟨s, H, x⟩ := σ
  obtain ⟨hI, hH, hT, hX⟩ := id hC
  dsimp only at hI hH hT hX h
  obtain ⟨F1, F6, R1, R2, B1, B2, W1, -⟩ := hI.1
  unfold aRadFor at h
  have lp : ∀ m, m ≤ 1000 → (∀ A2, CW (s, H, x) A2 → Q (opI (-1004) (rdn (rfP s m) 2001)) A2) → ∀ n, n ≤ 1991 → ∀ A1 : Mem, (∀ c, c < 40 ∨ 46 < c → A1 c = A c) → ML s A1 → rdn (rfP s m) 2001 = rdn (rfP s m) (n + 10) → pm_P 79 23 [(0, .ref 0), (1, .int (nI m)), (2, .int (nI (n + 9)))] [] A1 Q := by
    intro m hm hq n
    induction n with
    | zero =>
      intro hn A1 g1 g2 g3
      have hC1 : CW (s, H, x) A1 := CW_keep hC (fun c hc => g1 c (by omega)) (by rw [g1 47 (by omega)]) (g1 48 (by omega))
      have hh := hq A1 hC1
      rw [g3, rdn_none 10 (by omega)] at hh
      refine pm_iload_n (i := 2) d79_23 rfl rfl ?_
      refine pm_bipush (v := nI 10) d79_24 (by decide) ?_
      first | refine pm_icmp_ltN (tgt := 74) d79_26 rfl (by omega) (by omega) (fun c_26 => ?_) (fun c_26 => ?_) | refine pm_icmp_lt (tgt := 74) d79_26 rfl (fun c_26 => ?_) (fun c_26 => ?_)
      · refine pm_sipush (v := -1004) d79_74 (by decide) ?_
        refine pm_iret d79_77 rfl (by first | rfl | exact nar_b _) ?_
        exact hh
      · omega
    | succ n ih =>
      intro hn A1 g1 g2 g3
      have hC1 : CW (s, H, x) A1 := CW_keep hC (fun c hc => g1 c (by omega)) (by rw [g1 47 (by omega)]) (g1 48 (by omega))
      have hI1 := hC1.1
      rw [show rdn (rfP s m) (n + 1 + 10) = (if rfP s m (n + 10) = true then some (n + 10) else rdn (rfP s m) (n + 10)) from by rw [show n + 1 + 10 = (n + 10) + 1 by omega]; rfl] at g3
      have eP : rfP s m (n + 10) = enough s (n + 10) (sB s) (sW s) m := by
        unfold rfP
        rw [decide_eq_true (show 10 ≤ n + 10 by omega), Bool.true_and]
      refine pm_iload_n (i := 2) d79_23 rfl rfl ?_
      refine pm_bipush (v := nI 10) d79_24 (by decide) ?_
      first | refine pm_icmp_ltN (tgt := 74) d79_26 rfl (by omega) (by omega) (fun c_26 => ?_) (fun c_26 => ?_) | refine pm_icmp_lt (tgt := 74) d79_26 rfl (fun c_26 => ?_) (fun c_26 => ?_)
      · omega
      · refine pm_aload_n (i := 0) d79_29 rfl rfl ?_
        refine pm_getR d79_30 lf_10_61 rfl rfl ?_
        refine pm_aload_n (i := 0) d79_33 rfl rfl ?_
        refine pm_getR d79_34 lf_10_26 rfl rfl ?_
        refine pm_iload_n (i := 2) d79_37 rfl rfl ?_
        refine pm_callVv (k2 := 32) (As := [_, _]) d79_38 lk_10_286 ok_32 rfl rfl rfl (Nat.le_of_ble_eq_true rfl) rfl rfl rfl rfl rfl ⟨Nat.le_of_ble_eq_true rfl, Nat.le_of_ble_eq_true rfl⟩ (Nat.le_of_ble_eq_true rfl) ?_
        refine sp_32 F1 F6 hI1.2.1.2.2.1.2.2.2 (CI_nk hI1) (by omega) (fun A2 f3 f4 => ?_)
        have hM2 : ML s A2 := by
          unfold ML at *
          rw [f3 40 (by decide), f3 41 (by decide), f3 42 (by decide)]
          exact g2
        refine pm_aload_n (i := 0) d79_41 rfl rfl ?_
        refine pm_getR d79_42 lf_10_61 rfl rfl ?_
        refine pm_iload_n (i := 1) d79_45 rfl rfl ?_
        refine pm_aload_n (i := 0) d79_46 rfl rfl ?_
        refine pm_getR d79_47 lf_10_40 rfl rfl ?_
        refine pm_getE (v := nI (sB s)) d79_50 lf_10_118 rfl rfl (by rw [f3 21 (by decide), hI1.2.2.2.2.2.1]) ?_
        refine pm_aload_n (i := 0) d79_53 rfl rfl ?_
        refine pm_getR d79_54 lf_10_40 rfl rfl ?_
        refine pm_getE (v := nI (sW s)) d79_57 lf_10_121 rfl rfl (by rw [f3 21 (by decide), hI1.2.2.2.2.2.2.1]) ?_
        refine pm_callV (k2 := 33) (As := [_, _, _]) d79_60 lk_10_290 ok_33 rfl rfl rfl (Nat.le_of_ble_eq_true rfl) rfl rfl rfl rfl rfl ⟨Nat.le_of_ble_eq_true rfl, Nat.le_of_ble_eq_true rfl⟩ (Nat.le_of_ble_eq_true rfl) ?_
        refine sp_33 F1 F6 (R := n + 1 + 9) (by omega) (by omega) (by omega) B2 W1 hm hM2 f4 (fun A3 k1 k2 k3 => ?_)
        have hfr : ∀ c, c < 40 ∨ 46 < c → A3 c = A c := fun c hc => by rw [k1 c (by omega) (by omega) (by omega) (by omega), f3 c (by omega)]; exact g1 c hc
        first | refine pm_if_eqB (tgt := 68) d79_63 rfl (fun c_63 => ?_) (fun c_63 => ?_) | refine pm_if_eqN (tgt := 68) d79_63 rfl (by omega) (fun c_63 => ?_) (fun c_63 => ?_) | refine pm_if_eq (tgt := 68) d79_63 rfl (fun c_63 => ?_) (fun c_63 => ?_)
        · refine pm_iinc (L2 := [(0, _), (1, _), (2, _)]) (v := nI (n + 9)) d79_68 rfl (nI_dec (n + 9)) (by decide) rfl ?_
          refine pm_goto (tgt := 23) d79_71 rfl ?_
          rw [show n + 1 + 9 = n + 10 by omega] at c_63
          rw [eP, if_neg (by rw [c_63]; decide)] at g3
          refine ih (by omega) A3 hfr ?_ g3
          unfold ML at *
          rw [k1 41 (by decide) (by decide) (by decide) (by decide), k1 42 (by decide) (by decide) (by decide) (by decide), k2 2 (by decide)]
          exact hM2
        · refine pm_iload_n (i := 2) d79_66 rfl rfl ?_
          refine pm_iret d79_67 rfl (by first | rfl | exact nar_b _) ?_
          rw [show n + 1 + 9 = n + 10 by omega] at c_63 ⊢
          rw [eP, if_pos c_63] at g3
          have hh := hq A3 (CW_keep hC (fun c hc => hfr c (by omega)) (by rw [hfr 47 (by omega)]) (hfr 48 (by omega)))
          rw [g3] at hh
          exact hh
  refine pm_iload_n (i := 1) d79_0 rfl rfl ?_
  refine pm_iconst (v := nI 1) d79_1 (by decide) ?_
  refine pm_sipush (v := nI 1000) d79_2 (by decide) ?_
  refine pm_callS (k2 := 84) (As := [_, _, _]) d79_5 lk_10_86 ok_84 rfl rfl rfl (Nat.le_of_ble_eq_true rfl) rfl rfl ⟨Nat.le_of_ble_eq_true rfl, Nat.le_of_ble_eq_true rfl⟩ (Nat.le_of_ble_eq_true rfl) ?_
  refine sp_84 ?_
  rw [wi_def]
  first | refine pm_if_neB (tgt := 15) d79_8 rfl (fun c_8 => ?_) (fun c_8 => ?_) | refine pm_if_neN (tgt := 15) d79_8 rfl (by omega) (fun c_8 => ?_) (fun c_8 => ?_) | refine pm_if_ne (tgt := 15) d79_8 rfl (fun c_8 => ?_) (fun c_8 => ?_)
  · obtain ⟨m, hm1, hm2, rfl⟩ := wi_of (by decide) (by decide) c_8
    rw [if_pos c_8, nI_clamp (by omega)] at h 
    refine pm_aload_n (i := 0) d79_15 rfl rfl ?_
    refine pm_callVv (k2 := 107) (As := []) d79_16 lk_10_283 ok_107 rfl rfl rfl (Nat.le_of_ble_eq_true rfl) rfl rfl rfl rfl rfl ⟨Nat.le_of_ble_eq_true rfl, Nat.le_of_ble_eq_true rfl⟩ (Nat.le_of_ble_eq_true rfl) ?_
    refine sp_107 hI (fun A1 f1 f2 => ?_)
    refine pm_sipush (v := nI 2000) d79_19 (by decide) ?_
    refine pm_istore_n (i := 2) (L2 := [(0, _), (1, _), (2, _)]) d79_22 rfl (by decide) rfl ?_
    exact lp m hm2 h 1991 (by omega) A1 (fun c hc => f1 c (by omega) (by omega) (by omega)) f2 rfl
  · rw [if_neg (by rw [c_8]; decide)] at h 
    refine pm_sipush (v := -1001) d79_11 (by decide) ?_
    refine pm_iret d79_14 rfl (by first | rfl | exact nar_b _) ?_
    exact h A hC
theorem i2c_ok : ∀ a, a ≤ 126 → ((nI a).toUInt32 % 65536).toInt32 = nI a := by decide +kernel
theorem LOK_sub {s : Stt} {c c2 : Nat} {l : Nat → Nat} (h : LOK s c l) (hc : c2 ≤ c) : LOK s c2 l := fun i hi9 => h i (by omega)
theorem sAdd_cnt {s : Stt} {l : Nat → Nat} : ∀ c, LOK s c l → ns (sF s) ≤ 432 → cnt (sM (sAdd s c l)) 432 = cnt (sM s) 432 + c := by
  intro c
  induction c with
  | zero =>
    intro _ _
    rw [Nat.add_zero]
    exact cnt_congr (p := sM (sAdd s 0 l)) (q := sM s) (fun i _ => Bool.or_false _)
  | succ c ih =>
    intro h hn
    obtain ⟨a1, a2, a3⟩ := h c (by omega)
    have e := cnt_set (p := sM (sAdd s c l)) (q := sM (sAdd s (c + 1) l)) (n := 432) (b := l c) (by omega) (by
      show (sM s (l c) || anyN (fun j => decide (l j = l c)) c) = false
      rw [a2, Bool.false_or]
      cases e : anyN (fun j => decide (l j = l c)) c with
      | false => rfl
      | true =>
        obtain ⟨j, hj, hq⟩ := anyN_ex e
        exact absurd (of_decide_eq_true hq) (a3 j hj)) (by
      show (sM s (l c) || anyN (fun j => decide (l j = l c)) (c + 1)) = true
      rw [anyN_t (i := c) (by omega) (decide_eq_true rfl), Bool.or_true]) (fun i _ hne => by
      show (sM s i || anyN (fun j => decide (l j = i)) c) = (sM s i || (anyN (fun j => decide (l j = i)) c || decide (l c = i)))
      rw [decide_eq_false (fun q => hne q.symm), Bool.or_false])
    rw [e, ih (LOK_sub h (by omega)) hn]
    omega
theorem sAdd_ok {s : Stt} {l : Nat → Nat} {c : Nat} (h : okS s) (hl9 : LOK s c l) (hc : cnt (sM s) 432 + c ≤ 40) (hn : ns (sF s) ≤ 432) : okS (sAdd s c l) := by
  refine ⟨h.1, h.2.1, h.2.2.1, h.2.2.2.1, h.2.2.2.2.1, h.2.2.2.2.2.1, h.2.2.2.2.2.2.1, fun i hi9 => ?_, by rw [sAdd_cnt c hl9 hn]; exact hc⟩
  have hi9 : (sM s i || anyN (fun j => decide (l j = i)) c) = true := hi9
  rw [Bool.or_eq_true] at hi9
  rcases hi9 with q | q
  · exact h.2.2.2.2.2.2.2.1 i q
  · obtain ⟨j, hj, hq⟩ := anyN_ex q
    rw [← of_decide_eq_true hq]
    exact (hl9 j hj).1