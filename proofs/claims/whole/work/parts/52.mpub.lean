/-! THE REFERENCE'S CALLS THAT CHANGE NOTHING, first half -/
def MHi (H : Hst) (A : Mem) : Prop := H.1 ≤ 6 ∧ A 0 2 = nI H.1 ∧ ∀ j, j < H.1 → SM 2 (437 * j) (H.2 j) A ∧ okS (H.2 j)
def MTx (x : Txt) (A : Mem) : Prop := A 0 4 = nI x.1 ∧ ∀ i, i < x.1 → A 3 i = nI (x.2 i)
def LNm (s : Stt) (R : Nat) (A : Mem) : Prop := ∀ q, q < nk (sF s) → A 14 q = nI (len (sF s) q R)
/-- the reference's world holds all of it -/
def MW (σ : Sig) (A : Mem) : Prop := MI σ.1 A ∧ LNm σ.1 (sR σ.1) A ∧ MHi σ.2.1 A ∧ MTx σ.2.2 A ∧ okT σ.2.2
theorem MHi_keep {H : Hst} {A A2 : Mem} (h : MHi H A) (h0 : A2 0 2 = A 0 2) (h2 : A2 2 = A 2) : MHi H A2 := by
  refine ⟨h.1, by rw [h0]; exact h.2.1, fun j hj => ⟨SM_keep (h.2.2 j hj).1 h2, (h.2.2 j hj).2⟩⟩
theorem MTx_keep {x : Txt} {A A2 : Mem} (h : MTx x A) (h0 : A2 0 4 = A 0 4) (h3 : A2 3 = A 3) : MTx x A2 := by
  unfold MTx at *
  rw [h0, h3]
  exact h
theorem LNm_keep {s : Stt} {R : Nat} {A A2 : Mem} (h : LNm s R A) (h14 : A2 14 = A 14) : LNm s R A2 := by
  unfold LNm at *
  rw [h14]
  exact h
theorem MW_keep {σ : Sig} {A A2 : Mem} (h : MW σ A) (h0 : ∀ j, j ≤ 9 → A2 0 j = A 0 j) (hk : ∀ c, 1 ≤ c → c ≤ 14 → A2 c = A c) : MW σ A2 :=
  ⟨MI_keep h.1 (fun j _ hj => h0 j hj) (fun c _ _ => hk c (by omega) (by omega)) (hk 1 (by omega) (by omega)), LNm_keep h.2.1 (hk 14 (by omega) (by omega)), MHi_keep h.2.2.1 (h0 2 (by omega)) (hk 2 (by omega) (by omega)), MTx_keep h.2.2.2.1 (h0 4 (by omega)) (hk 3 (by omega) (by omega)), h.2.2.2.2⟩
theorem wi_inN (v : Int32) (n : Nat) : wi v 0 n = inN v (n + 1) := by
  unfold wi inN
  rw [show nI (n + 1) - 1 = nI n from nI_sub (b := 1) (by omega)]
  rfl
theorem ix_f {v : Int32} {n : Nat} (h : inN v n = false) : ix v n = n := by
  unfold ix
  rw [if_neg (by rw [h]; decide)]
theorem dgr_0 {s : Stt} {a : Nat} (h1 : 1 ≤ sF s) (h6 : sF s ≤ 6) (ha : a < nh (sF s)) (h : kh s a = false) : dgr s a = 0 := by
  unfold dgr
  refine cnt_non (fun j hj => ?_)
  have : ks s (lk (sF s) (a * 6 + j)) = false := by
    unfold ks
    rcases bd_e2 h1 h6 ha hj with e | e
    · rw [e.1, h, Bool.false_and]
    · rw [e.1, h, Bool.and_false]
  rw [this, Bool.false_and]
theorem pd_148 {σ : Sig} {u v : Int32} {A : Mem} {Q : Int32 → Mem → Prop} (hC : MW σ A) (h : ∀ A2, MW σ A2 → Q (aHub σ.1 u v) A2) : pm_P 148 0 [(0, .ref 0), (1, .int u), (2, .int v)] [] A Q := by
  obtain ⟨s, H, x⟩ := σ
  have hI : MI s A := hC.1
  have hb := MI_bd hI
  have hh := h A hC
  unfold aHub at hh
  dsimp only at hh
  clear h
  refine pm_aload_n (i := 0) d148_0 rfl rfl ?_
  refine pm_iload_n (i := 1) d148_1 rfl rfl ?_
  refine pm_callV (k2 := 144) (As := [_]) d148_2 lk_11_188 ok_144 rfl rfl rfl (Nat.le_of_ble_eq_true rfl) rfl rfl rfl rfl rfl ⟨Nat.le_of_ble_eq_true rfl, Nat.le_of_ble_eq_true rfl⟩ (Nat.le_of_ble_eq_true rfl) ?_
  refine sp_144 hI ?_
  first | refine pm_if_eqB (tgt := 18) d148_5 rfl (fun c_5 => ?_) (fun c_5 => ?_) | refine pm_if_eqN (tgt := 18) d148_5 rfl (by omega) (fun c_5 => ?_) (fun c_5 => ?_) | refine pm_if_eq (tgt := 18) d148_5 rfl (fun c_5 => ?_) (fun c_5 => ?_)
  · rw [if_neg (by rw [c_5]; decide)] at hh 
    refine pm_sipush (v := -1001) d148_18 (by decide) ?_
    refine pm_iret d148_21 rfl (by first | rfl | exact nar_b _) ?_
    exact hh
  · obtain ⟨a, ha, rfl⟩ := inN_of (by omega) (by omega) c_5
    rw [if_pos c_5, nI_clamp (by omega)] at hh
    obtain ⟨x1, x2, x3⟩ := MI_xyz hI ha 
    refine pm_iload_n (i := 2) d148_8 rfl rfl ?_
    refine pm_iconst (v := nI 0) d148_9 (by decide) ?_
    refine pm_bipush (v := nI 8) d148_10 (by decide) ?_
    refine pm_callS (k2 := 113) (As := [_, _, _]) d148_12 lk_11_130 ok_113 rfl rfl rfl (Nat.le_of_ble_eq_true rfl) rfl rfl ⟨Nat.le_of_ble_eq_true rfl, Nat.le_of_ble_eq_true rfl⟩ (Nat.le_of_ble_eq_true rfl) ?_
    refine sp_113 ?_
    rw [wi_def, wi_inN]
    first | refine pm_if_neB (tgt := 22) d148_15 rfl (fun c_15 => ?_) (fun c_15 => ?_) | refine pm_if_neN (tgt := 22) d148_15 rfl (by omega) (fun c_15 => ?_) (fun c_15 => ?_) | refine pm_if_ne (tgt := 22) d148_15 rfl (fun c_15 => ?_) (fun c_15 => ?_)
    · refine pm_iload_n (i := 2) d148_22 rfl rfl ?_
      by_cases hx0 : v = nI 0
      · subst hx0
        rw [ix_nI (by decide) (by decide)] at hh
        refine pm_swIn (off := 45) (tgt := 68) d148_23 (by decide) (by decide) rfl rfl ?_
        refine pm_aload_n (i := 0) d148_68 rfl rfl ?_
        refine pm_getR d148_69 lf_11_20 rfl rfl ?_
        refine pm_iload_n (i := 1) d148_72 rfl rfl ?_
        refine pm_ialdN d148_73 rfl (by decide) (by omega) ?_
        rw [x1]
        refine pm_iret d148_74 rfl (by first | rfl | exact nar_b _) ?_
        exact hh
      by_cases hx1 : v = nI 1
      · subst hx1
        rw [ix_nI (by decide) (by decide)] at hh
        refine pm_swIn (off := 52) (tgt := 75) d148_23 (by decide) (by decide) rfl rfl ?_
        refine pm_aload_n (i := 0) d148_75 rfl rfl ?_
        refine pm_getR d148_76 lf_11_23 rfl rfl ?_
        refine pm_iload_n (i := 1) d148_79 rfl rfl ?_
        refine pm_ialdN d148_80 rfl (by decide) (by omega) ?_
        rw [x2]
        refine pm_iret d148_81 rfl (by first | rfl | exact nar_b _) ?_
        exact hh
      by_cases hx2 : v = nI 2
      · subst hx2
        rw [ix_nI (by decide) (by decide)] at hh
        refine pm_swIn (off := 59) (tgt := 82) d148_23 (by decide) (by decide) rfl rfl ?_
        refine pm_aload_n (i := 0) d148_82 rfl rfl ?_
        refine pm_getR d148_83 lf_11_26 rfl rfl ?_
        refine pm_iload_n (i := 1) d148_86 rfl rfl ?_
        refine pm_ialdN d148_87 rfl (by decide) (by omega) ?_
        rw [x3]
        refine pm_iret d148_88 rfl (by first | rfl | exact nar_b _) ?_
        exact hh
      by_cases hx3 : v = nI 3
      · subst hx3
        rw [ix_nI (by decide) (by decide)] at hh
        refine pm_swIn (off := 66) (tgt := 89) d148_23 (by decide) (by decide) rfl rfl ?_
        refine pm_aload_n (i := 0) d148_89 rfl rfl ?_
        refine pm_iload_n (i := 1) d148_90 rfl rfl ?_
        refine pm_callV (k2 := 145) (As := [_]) d148_91 lk_11_191 ok_145 rfl rfl rfl (Nat.le_of_ble_eq_true rfl) rfl rfl rfl rfl rfl ⟨Nat.le_of_ble_eq_true rfl, Nat.le_of_ble_eq_true rfl⟩ (Nat.le_of_ble_eq_true rfl) ?_
        refine sp_145 hI ha ?_
        refine pm_iret d148_94 rfl (by first | rfl | exact nar_b _) ?_
        exact hh
      by_cases hx4 : v = nI 4
      · subst hx4
        rw [ix_nI (by decide) (by decide)] at hh
        refine pm_swIn (off := 72) (tgt := 95) d148_23 (by decide) (by decide) rfl rfl ?_
        refine pm_aload_n (i := 0) d148_95 rfl rfl ?_
        refine pm_iload_n (i := 1) d148_96 rfl rfl ?_
        refine pm_callV (k2 := 130) (As := [_]) d148_97 lk_11_140 ok_130 rfl rfl rfl (Nat.le_of_ble_eq_true rfl) rfl rfl rfl rfl rfl ⟨Nat.le_of_ble_eq_true rfl, Nat.le_of_ble_eq_true rfl⟩ (Nat.le_of_ble_eq_true rfl) ?_
        refine sp_130 hI ha ?_
        first | refine pm_if_eqB (tgt := 111) d148_100 rfl (fun c_100 => ?_) (fun c_100 => ?_) | refine pm_if_eqN (tgt := 111) d148_100 rfl (by omega) (fun c_100 => ?_) (fun c_100 => ?_) | refine pm_if_eq (tgt := 111) d148_100 rfl (fun c_100 => ?_) (fun c_100 => ?_)
        · refine pm_iconst (v := nI 0) d148_111 (by decide) ?_
          refine pm_iret d148_112 rfl (by first | rfl | exact nar_b _) ?_
          have hh : Q (nI (dgr s a)) A := hh
          rw [dgr_0 hI.1.1 hI.1.2.1 ha c_100] at hh
          exact hh
        · refine pm_aload_n (i := 0) d148_103 rfl rfl ?_
          refine pm_iload_n (i := 1) d148_104 rfl rfl ?_
          refine pm_callV (k2 := 146) (As := [_]) d148_105 lk_11_194 ok_146 rfl rfl rfl (Nat.le_of_ble_eq_true rfl) rfl rfl rfl rfl rfl ⟨Nat.le_of_ble_eq_true rfl, Nat.le_of_ble_eq_true rfl⟩ (Nat.le_of_ble_eq_true rfl) ?_
          refine sp_146 hI ha ?_
          refine pm_goto (tgt := 112) d148_108 rfl ?_
          refine pm_iret d148_112 rfl (by first | rfl | exact nar_b _) ?_
          exact hh
      by_cases hx5 : v = nI 5
      · subst hx5
        rw [ix_nI (by decide) (by decide)] at hh
        refine pm_swIn (off := 90) (tgt := 113) d148_23 (by decide) (by decide) rfl rfl ?_
        refine pm_aload_n (i := 0) d148_113 rfl rfl ?_
        refine pm_iload_n (i := 1) d148_114 rfl rfl ?_
        refine pm_callV (k2 := 130) (As := [_]) d148_115 lk_11_140 ok_130 rfl rfl rfl (Nat.le_of_ble_eq_true rfl) rfl rfl rfl rfl rfl ⟨Nat.le_of_ble_eq_true rfl, Nat.le_of_ble_eq_true rfl⟩ (Nat.le_of_ble_eq_true rfl) ?_
        refine sp_130 hI ha ?_
        first | refine pm_if_eqB (tgt := 125) d148_118 rfl (fun c_118 => ?_) (fun c_118 => ?_) | refine pm_if_eqN (tgt := 125) d148_118 rfl (by omega) (fun c_118 => ?_) (fun c_118 => ?_) | refine pm_if_eq (tgt := 125) d148_118 rfl (fun c_118 => ?_) (fun c_118 => ?_)
        · refine pm_iconst (v := nI 0) d148_125 (by decide) ?_
          refine pm_iret d148_126 rfl (by first | rfl | exact nar_b _) ?_
          have hh : Q (b2i (kh s a)) A := hh
          rw [c_118] at hh
          exact hh
        · refine pm_iconst (v := nI 1) d148_121 (by decide) ?_
          refine pm_goto (tgt := 126) d148_122 rfl ?_
          refine pm_iret d148_126 rfl (by first | rfl | exact nar_b _) ?_
          have hh : Q (b2i (kh s a)) A := hh
          rw [c_118] at hh
          exact hh
      by_cases hx6 : v = nI 6
      · subst hx6
        rw [ix_nI (by decide) (by decide)] at hh
        refine pm_swIn (off := 104) (tgt := 127) d148_23 (by decide) (by decide) rfl rfl ?_
        refine pm_aload_n (i := 0) d148_127 rfl rfl ?_
        refine pm_iload_n (i := 1) d148_128 rfl rfl ?_
        refine pm_callV (k2 := 139) (As := [_]) d148_129 lk_11_172 ok_139 rfl rfl rfl (Nat.le_of_ble_eq_true rfl) rfl rfl rfl rfl rfl ⟨Nat.le_of_ble_eq_true rfl, Nat.le_of_ble_eq_true rfl⟩ (Nat.le_of_ble_eq_true rfl) ?_
        refine sp_139 hI ha ?_
        first | refine pm_if_eqB (tgt := 139) d148_132 rfl (fun c_132 => ?_) (fun c_132 => ?_) | refine pm_if_eqN (tgt := 139) d148_132 rfl (by omega) (fun c_132 => ?_) (fun c_132 => ?_) | refine pm_if_eq (tgt := 139) d148_132 rfl (fun c_132 => ?_) (fun c_132 => ?_)
        · refine pm_iconst (v := nI 0) d148_139 (by decide) ?_
          refine pm_iret d148_140 rfl (by first | rfl | exact nar_b _) ?_
          have hh : Q (b2i (bh s a)) A := hh
          rw [c_132] at hh
          exact hh
        · refine pm_iconst (v := nI 1) d148_135 (by decide) ?_
          refine pm_goto (tgt := 140) d148_136 rfl ?_
          refine pm_iret d148_140 rfl (by first | rfl | exact nar_b _) ?_
          have hh : Q (b2i (bh s a)) A := hh
          rw [c_132] at hh
          exact hh
      by_cases hx7 : v = nI 7
      · subst hx7
        rw [ix_nI (by decide) (by decide)] at hh
        refine pm_swIn (off := 118) (tgt := 141) d148_23 (by decide) (by decide) rfl rfl ?_
        refine pm_aload_n (i := 0) d148_141 rfl rfl ?_
        refine pm_iload_n (i := 1) d148_142 rfl rfl ?_
        refine pm_callV (k2 := 120) (As := [_]) d148_143 lk_11_87 ok_120 rfl rfl rfl (Nat.le_of_ble_eq_true rfl) rfl rfl rfl rfl rfl ⟨Nat.le_of_ble_eq_true rfl, Nat.le_of_ble_eq_true rfl⟩ (Nat.le_of_ble_eq_true rfl) ?_
        refine sp_120 hI.1.1 hI.1.2.1 hI.2.1.2.1 ha ?_
        refine pm_iret d148_146 rfl (by first | rfl | exact nar_b _) ?_
        exact hh
      have e8 : ix v 9 = 8 := by
        obtain ⟨n, hn, rfl⟩ := inN_of (by decide) (by decide) c_15
        have n0 : ¬ n = 0 := fun q => hx0 (by rw [q])
        have n1 : ¬ n = 1 := fun q => hx1 (by rw [q])
        have n2 : ¬ n = 2 := fun q => hx2 (by rw [q])
        have n3 : ¬ n = 3 := fun q => hx3 (by rw [q])
        have n4 : ¬ n = 4 := fun q => hx4 (by rw [q])
        have n5 : ¬ n = 5 := fun q => hx5 (by rw [q])
        have n6 : ¬ n = 6 := fun q => hx6 (by rw [q])
        have n7 : ¬ n = 7 := fun q => hx7 (by rw [q])
        rw [show n = 8 by omega]
        exact ix_nI (by decide) (by decide)
      rw [e8] at hh
      refine pm_swOut (tgt := 147) d148_23 (sw_out 8 (by decide) (by decide) (fun j hj => by rcases (show j = 0 ∨ j = 1 ∨ j = 2 ∨ j = 3 ∨ j = 4 ∨ j = 5 ∨ j = 6 ∨ j = 7 by omega) with rfl | rfl | rfl | rfl | rfl | rfl | rfl | rfl <;> assumption)) rfl ?_
      refine pm_aload_n (i := 0) d148_147 rfl rfl ?_
      refine pm_iload_n (i := 1) d148_148 rfl rfl ?_
      refine pm_callV (k2 := 147) (As := [_]) d148_149 lk_11_197 ok_147 rfl rfl rfl (Nat.le_of_ble_eq_true rfl) rfl rfl rfl rfl rfl ⟨Nat.le_of_ble_eq_true rfl, Nat.le_of_ble_eq_true rfl⟩ (Nat.le_of_ble_eq_true rfl) ?_
      refine sp_147 hI ha ?_
      refine pm_iret d148_152 rfl (by first | rfl | exact nar_b _) ?_
      exact hh
    · rw [ix_f c_15] at hh 
      refine pm_sipush (v := -1001) d148_18 (by decide) ?_
      refine pm_iret d148_21 rfl (by first | rfl | exact nar_b _) ?_
      exact hh
theorem pd_150 {σ : Sig} {x1 y1 z1 : Int32} {A : Mem} {Q : Int32 → Mem → Prop} (hC : MW σ A) (h : ∀ A2, MW σ A2 → Q (aHubAt σ.1 x1 y1 z1) A2) : pm_P 150 0 [(0, .ref 0), (1, .int x1), (2, .int y1), (3, .int z1)] [] A Q := by
  obtain ⟨s, H, x⟩ := σ
  have hI : MI s A := hC.1
  have hb := MI_bd hI
  have hh := h A hC
  unfold aHubAt at hh
  clear h
  refine pm_iload_n (i := 1) d150_0 rfl rfl ?_
  refine pm_bipush (v := -6) d150_1 (by decide) ?_
  refine pm_bipush (v := nI 6) d150_3 (by decide) ?_
  refine pm_callS (k2 := 113) (As := [_, _, _]) d150_5 lk_11_130 ok_113 rfl rfl rfl (Nat.le_of_ble_eq_true rfl) rfl rfl ⟨Nat.le_of_ble_eq_true rfl, Nat.le_of_ble_eq_true rfl⟩ (Nat.le_of_ble_eq_true rfl) ?_
  refine sp_113 ?_
  first | refine pm_if_eqB (tgt := 43) d150_8 rfl (fun c_8 => ?_) (fun c_8 => ?_) | refine pm_if_eqN (tgt := 43) d150_8 rfl (by omega) (fun c_8 => ?_) (fun c_8 => ?_) | refine pm_if_eq (tgt := 43) d150_8 rfl (fun c_8 => ?_) (fun c_8 => ?_)
  · rw [show co6 x1 = false from c_8, Bool.false_and, if_neg (by decide)] at hh 
    refine pm_sipush (v := -1001) d150_43 (by decide) ?_
    refine pm_iret d150_46 rfl (by first | rfl | exact nar_b _) ?_
    exact hh
  · refine pm_iload_n (i := 2) d150_11 rfl rfl ?_
    refine pm_bipush (v := -6) d150_12 (by decide) ?_
    refine pm_bipush (v := nI 6) d150_14 (by decide) ?_
    refine pm_callS (k2 := 113) (As := [_, _, _]) d150_16 lk_11_130 ok_113 rfl rfl rfl (Nat.le_of_ble_eq_true rfl) rfl rfl ⟨Nat.le_of_ble_eq_true rfl, Nat.le_of_ble_eq_true rfl⟩ (Nat.le_of_ble_eq_true rfl) ?_
    refine sp_113 ?_
    first | refine pm_if_eqB (tgt := 43) d150_19 rfl (fun c_19 => ?_) (fun c_19 => ?_) | refine pm_if_eqN (tgt := 43) d150_19 rfl (by omega) (fun c_19 => ?_) (fun c_19 => ?_) | refine pm_if_eq (tgt := 43) d150_19 rfl (fun c_19 => ?_) (fun c_19 => ?_)
    · rw [show co6 y1 = false from c_19, Bool.false_and, Bool.and_false, if_neg (by decide)] at hh 
      refine pm_sipush (v := -1001) d150_43 (by decide) ?_
      refine pm_iret d150_46 rfl (by first | rfl | exact nar_b _) ?_
      exact hh
    · refine pm_iload_n (i := 3) d150_22 rfl rfl ?_
      refine pm_bipush (v := -6) d150_23 (by decide) ?_
      refine pm_bipush (v := nI 6) d150_25 (by decide) ?_
      refine pm_callS (k2 := 113) (As := [_, _, _]) d150_27 lk_11_130 ok_113 rfl rfl rfl (Nat.le_of_ble_eq_true rfl) rfl rfl ⟨Nat.le_of_ble_eq_true rfl, Nat.le_of_ble_eq_true rfl⟩ (Nat.le_of_ble_eq_true rfl) ?_
      refine sp_113 ?_
      first | refine pm_if_eqB (tgt := 43) d150_30 rfl (fun c_30 => ?_) (fun c_30 => ?_) | refine pm_if_eqN (tgt := 43) d150_30 rfl (by omega) (fun c_30 => ?_) (fun c_30 => ?_) | refine pm_if_eq (tgt := 43) d150_30 rfl (fun c_30 => ?_) (fun c_30 => ?_)
      · rw [show co6 z1 = false from c_30, Bool.and_false, Bool.and_false, if_neg (by decide)] at hh 
        refine pm_sipush (v := -1001) d150_43 (by decide) ?_
        refine pm_iret d150_46 rfl (by first | rfl | exact nar_b _) ?_
        exact hh
      · rw [show co6 x1 = true from c_8, show co6 y1 = true from c_19, show co6 z1 = true from c_30, if_pos (by decide)] at hh 
        refine pm_aload_n (i := 0) d150_33 rfl rfl ?_
        refine pm_iload_n (i := 1) d150_34 rfl rfl ?_
        refine pm_iload_n (i := 2) d150_35 rfl rfl ?_
        refine pm_iload_n (i := 3) d150_36 rfl rfl ?_
        refine pm_callV (k2 := 149) (As := [_, _, _]) d150_37 lk_11_200 ok_149 rfl rfl rfl (Nat.le_of_ble_eq_true rfl) rfl rfl rfl rfl rfl ⟨Nat.le_of_ble_eq_true rfl, Nat.le_of_ble_eq_true rfl⟩ (Nat.le_of_ble_eq_true rfl) ?_
        refine sp_149 hI.1.1 hI.1.2.1 hI.2.1.2.1 ?_
        refine pm_goto (tgt := 46) d150_40 rfl ?_
        refine pm_iret d150_46 rfl (by first | rfl | exact nar_b _) ?_
        exact hh
theorem pd_151 {σ : Sig} {u v : Int32} {A : Mem} {Q : Int32 → Mem → Prop} (hC : MW σ A) (h : ∀ A2, MW σ A2 → Q (aJoined σ.1 u v) A2) : pm_P 151 0 [(0, .ref 0), (1, .int u), (2, .int v)] [] A Q := by
  obtain ⟨s, H, x⟩ := σ
  have hI : MI s A := hC.1
  have hb := MI_bd hI
  have hh := h A hC
  unfold aJoined at hh
  dsimp only at hh
  clear h
  have lp : ∀ a i, a < nh (sF s) → i < 2 ^ 31 → Q (if i < dg (sF s) a then nI (lh (sF s) (a * 6 + i)) else -1004) A → ∀ n, n ≤ nh (sF s) → mlt (sF s) a n ≤ i → pm_P 151 21 [(0, .ref 0), (1, .int (nI a)), (2, .int (nI i)), (3, .int (nI (i - mlt (sF s) a n))), (4, .int (nI n))] [] A Q := by
    intro a i ha hi9 hq
    refine up_ind (fun n hn ih hm => ?_)
    by_cases hlt : n < nh (sF s)
    · have ih := ih hlt
      have e12 := MI_bt hI ha hlt
      rcases bd_ml hI.1.1 hI.1.2.1 ha hlt with ⟨st, g1, g2, g3, g4, g5⟩ | ⟨g1, g5⟩
      · have hst := btw_lt hI.1.1 hI.1.2.1 ha g1
        rw [g1] at e12
        rw [g5] at ih
        refine pm_iload d151_21 rfl ?_
        refine pm_aload_n (i := 0) d151_23 rfl rfl ?_
        refine pm_getE d151_24 lf_11_76 rfl rfl (MI_nh hI) ?_
        first | refine pm_icmp_geN (tgt := 62) d151_27 rfl (by omega) (by omega) (fun c_27 => ?_) (fun c_27 => ?_) | refine pm_icmp_ge (tgt := 62) d151_27 rfl (fun c_27 => ?_) (fun c_27 => ?_)
        · omega
        · refine pm_aload_n (i := 0) d151_30 rfl rfl ?_
          refine pm_getR d151_31 lf_11_44 rfl rfl ?_
          refine pm_sipush (v := nI 146) d151_34 (by decide) ?_
          refine pm_iload_n (i := 1) d151_37 rfl rfl ?_
          first | refine pm_imulN d151_38 ?_ | refine pm_imul d151_38 ?_
          refine pm_iload d151_39 rfl ?_
          first | refine pm_iaddN d151_41 ?_ | refine pm_iadd d151_41 ?_
          refine pm_ialdN d151_42 rfl (by decide) (by omega) ?_
          rw [e12, show opI (-1) (some st) = nI st from rfl]
          refine pm_if_lt (tgt := 56) d151_43 rfl (fun c_43 => ?_) (fun c_43 => ?_)
          · exact absurd c_43 (nI_pos (by omega))
          · refine pm_iload_n (i := 3) d151_46 rfl rfl ?_
            first | refine pm_if_neB (tgt := 53) d151_47 rfl (fun c_47 => ?_) (fun c_47 => ?_) | refine pm_if_neN (tgt := 53) d151_47 rfl (by omega) (fun c_47 => ?_) (fun c_47 => ?_) | refine pm_if_ne (tgt := 53) d151_47 rfl (fun c_47 => ?_) (fun c_47 => ?_)
            · refine pm_iinc (L2 := [(0, _), (1, _), (2, _), (3, _), (4, _)]) (v := nI (i - (mlt (sF s) a n + 1))) d151_53 rfl (by rw [show i - mlt (sF s) a n = i - (mlt (sF s) a n + 1) + 1 by omega]; exact nI_dec _) (by decide) rfl ?_
              first | refine pm_iincN 1 (L2 := [(0, _), (1, _), (2, _), (3, _), (4, _)]) d151_56 rfl (by decide) rfl ?_ | refine pm_iinc (L2 := [(0, _), (1, _), (2, _), (3, _), (4, _)]) d151_56 rfl rfl (by decide) rfl ?_
              refine pm_goto (tgt := 21) d151_59 rfl ?_
              exact ih (by omega)
            · refine pm_iload d151_50 rfl ?_
              refine pm_iret d151_52 rfl (by first | rfl | exact nar_b _) ?_
              have e : i = mlt (sF s) a n := by omega
              rw [e, if_pos g2, g3] at hq
              exact hq
      · rw [g1] at e12
        rw [g5] at ih
        refine pm_iload d151_21 rfl ?_
        refine pm_aload_n (i := 0) d151_23 rfl rfl ?_
        refine pm_getE d151_24 lf_11_76 rfl rfl (MI_nh hI) ?_
        first | refine pm_icmp_geN (tgt := 62) d151_27 rfl (by omega) (by omega) (fun c_27 => ?_) (fun c_27 => ?_) | refine pm_icmp_ge (tgt := 62) d151_27 rfl (fun c_27 => ?_) (fun c_27 => ?_)
        · omega
        · refine pm_aload_n (i := 0) d151_30 rfl rfl ?_
          refine pm_getR d151_31 lf_11_44 rfl rfl ?_
          refine pm_sipush (v := nI 146) d151_34 (by decide) ?_
          refine pm_iload_n (i := 1) d151_37 rfl rfl ?_
          first | refine pm_imulN d151_38 ?_ | refine pm_imul d151_38 ?_
          refine pm_iload d151_39 rfl ?_
          first | refine pm_iaddN d151_41 ?_ | refine pm_iadd d151_41 ?_
          refine pm_ialdN d151_42 rfl (by decide) (by omega) ?_
          rw [e12, show opI (-1) none = -1 from rfl]
          refine pm_if_lt (tgt := 56) d151_43 rfl (fun c_43 => ?_) (fun c_43 => ?_)
          · first | refine pm_iincN 1 (L2 := [(0, _), (1, _), (2, _), (3, _), (4, _)]) d151_56 rfl (by decide) rfl ?_ | refine pm_iinc (L2 := [(0, _), (1, _), (2, _), (3, _), (4, _)]) d151_56 rfl rfl (by decide) rfl ?_
            refine pm_goto (tgt := 21) d151_59 rfl ?_
            exact ih hm
          · exact absurd (by decide) c_43
    · have en : n = nh (sF s) := by omega
      rw [en, mlt_n hI.1.1 hI.1.2.1 ha] at hm
      rw [if_neg (by omega)] at hq
      refine pm_iload d151_21 rfl ?_
      refine pm_aload_n (i := 0) d151_23 rfl rfl ?_
      refine pm_getE d151_24 lf_11_76 rfl rfl (MI_nh hI) ?_
      first | refine pm_icmp_geN (tgt := 62) d151_27 rfl (by omega) (by omega) (fun c_27 => ?_) (fun c_27 => ?_) | refine pm_icmp_ge (tgt := 62) d151_27 rfl (fun c_27 => ?_) (fun c_27 => ?_)
      · refine pm_sipush (v := -1004) d151_62 (by decide) ?_
        refine pm_iret d151_65 rfl (by first | rfl | exact nar_b _) ?_
        exact hq
      · omega
  refine pm_aload_n (i := 0) d151_0 rfl rfl ?_
  refine pm_iload_n (i := 1) d151_1 rfl rfl ?_
  refine pm_callV (k2 := 144) (As := [_]) d151_2 lk_11_188 ok_144 rfl rfl rfl (Nat.le_of_ble_eq_true rfl) rfl rfl rfl rfl rfl ⟨Nat.le_of_ble_eq_true rfl, Nat.le_of_ble_eq_true rfl⟩ (Nat.le_of_ble_eq_true rfl) ?_
  refine sp_144 hI ?_
  first | refine pm_if_eqB (tgt := 12) d151_5 rfl (fun c_5 => ?_) (fun c_5 => ?_) | refine pm_if_eqN (tgt := 12) d151_5 rfl (by omega) (fun c_5 => ?_) (fun c_5 => ?_) | refine pm_if_eq (tgt := 12) d151_5 rfl (fun c_5 => ?_) (fun c_5 => ?_)
  · rw [c_5, Bool.false_and, if_neg (by decide)] at hh 
    refine pm_sipush (v := -1001) d151_12 (by decide) ?_
    refine pm_iret d151_15 rfl (by first | rfl | exact nar_b _) ?_
    exact hh
  · refine pm_iload_n (i := 2) d151_8 rfl rfl ?_
    refine pm_if_ge (tgt := 16) d151_9 rfl (fun c_9 => ?_) (fun c_9 => ?_)
    · rw [c_5, decide_eq_true c_9, if_pos (by decide)] at hh
      obtain ⟨a, ha, rfl⟩ := inN_of (by omega) (by omega) c_5
      have hv0 : ¬ v < 0 := fun q => by
        rw [Int32.lt_iff_toInt_lt] at q
        rw [Int32.le_iff_toInt_le] at c_9
        omega
      obtain ⟨j, hj, rfl⟩ := nI_of hv0
      rw [nI_clamp hj, nI_clamp (show a < 2 ^ 31 by omega)] at hh 
      refine pm_iload_n (i := 2) d151_16 rfl rfl ?_
      refine pm_istore_n (i := 3) (L2 := [(0, _), (1, _), (2, _), (3, _)]) d151_17 rfl (by decide) rfl ?_
      refine pm_iconst (v := nI 0) d151_18 (by decide) ?_
      refine pm_istore (L2 := [(0, _), (1, _), (2, _), (3, _), (4, _)]) d151_19 (by decide) rfl ?_
      have := lp a j ha hj hh 0 (Nat.zero_le _) (by rw [mlt_0]; omega)
      rw [mlt_0] at this
      exact this
    · rw [decide_eq_false c_9, Bool.and_false, if_neg (by decide)] at hh 
      refine pm_sipush (v := -1001) d151_12 (by decide) ?_
      refine pm_iret d151_15 rfl (by first | rfl | exact nar_b _) ?_
      exact hh
theorem pd_152 {σ : Sig} {u v : Int32} {A : Mem} {Q : Int32 → Mem → Prop} (hC : MW σ A) (h : ∀ A2, MW σ A2 → Q (aLed σ.1 u v) A2) : pm_P 152 0 [(0, .ref 0), (1, .int u), (2, .int v)] [] A Q := by
  obtain ⟨s, H, x⟩ := σ
  have hI : MI s A := hC.1
  have hb := MI_bd hI
  have hh := h A hC
  unfold aLed at hh
  dsimp only at hh
  clear h
  refine pm_aload_n (i := 0) d152_0 rfl rfl ?_
  refine pm_iload_n (i := 1) d152_1 rfl rfl ?_
  refine pm_callV (k2 := 144) (As := [_]) d152_2 lk_11_188 ok_144 rfl rfl rfl (Nat.le_of_ble_eq_true rfl) rfl rfl rfl rfl rfl ⟨Nat.le_of_ble_eq_true rfl, Nat.le_of_ble_eq_true rfl⟩ (Nat.le_of_ble_eq_true rfl) ?_
  refine sp_144 hI ?_
  first | refine pm_if_eqB (tgt := 17) d152_5 rfl (fun c_5 => ?_) (fun c_5 => ?_) | refine pm_if_eqN (tgt := 17) d152_5 rfl (by omega) (fun c_5 => ?_) (fun c_5 => ?_) | refine pm_if_eq (tgt := 17) d152_5 rfl (fun c_5 => ?_) (fun c_5 => ?_)
  · rw [if_neg (by rw [c_5]; decide)] at hh 
    refine pm_sipush (v := -1001) d152_17 (by decide) ?_
    refine pm_iret d152_20 rfl (by first | rfl | exact nar_b _) ?_
    exact hh
  · obtain ⟨a, ha, rfl⟩ := inN_of (by omega) (by omega) c_5
    rw [if_pos c_5, nI_clamp (by omega)] at hh
    obtain ⟨x1, x2, x3⟩ := MI_xyz hI ha
    obtain ⟨l0, l1, l2, l3, l4, l5⟩ := bd_ld hI.1.1 hI.1.2.1 ha 
    refine pm_iload_n (i := 2) d152_8 rfl rfl ?_
    refine pm_iconst (v := nI 0) d152_9 (by decide) ?_
    refine pm_iconst (v := nI 5) d152_10 (by decide) ?_
    refine pm_callS (k2 := 113) (As := [_, _, _]) d152_11 lk_11_130 ok_113 rfl rfl rfl (Nat.le_of_ble_eq_true rfl) rfl rfl ⟨Nat.le_of_ble_eq_true rfl, Nat.le_of_ble_eq_true rfl⟩ (Nat.le_of_ble_eq_true rfl) ?_
    refine sp_113 ?_
    rw [wi_def, wi_inN]
    first | refine pm_if_neB (tgt := 21) d152_14 rfl (fun c_14 => ?_) (fun c_14 => ?_) | refine pm_if_neN (tgt := 21) d152_14 rfl (by omega) (fun c_14 => ?_) (fun c_14 => ?_) | refine pm_if_ne (tgt := 21) d152_14 rfl (fun c_14 => ?_) (fun c_14 => ?_)
    · refine pm_aload_n (i := 0) d152_21 rfl rfl ?_
      refine pm_getR d152_22 lf_11_20 rfl rfl ?_
      refine pm_iload_n (i := 1) d152_25 rfl rfl ?_
      refine pm_ialdN d152_26 rfl (by decide) (by omega) ?_
      rw [x1]
      refine pm_istore_n (i := 3) (L2 := [(0, _), (1, _), (2, _), (3, _)]) d152_27 rfl (by decide) rfl ?_
      refine pm_aload_n (i := 0) d152_28 rfl rfl ?_
      refine pm_getR d152_29 lf_11_23 rfl rfl ?_
      refine pm_iload_n (i := 1) d152_32 rfl rfl ?_
      refine pm_ialdN d152_33 rfl (by decide) (by omega) ?_
      rw [x2]
      refine pm_istore (L2 := [(0, _), (1, _), (2, _), (3, _), (4, _)]) d152_34 (by decide) rfl ?_
      refine pm_aload_n (i := 0) d152_36 rfl rfl ?_
      refine pm_getR d152_37 lf_11_26 rfl rfl ?_
      refine pm_iload_n (i := 1) d152_40 rfl rfl ?_
      refine pm_ialdN d152_41 rfl (by decide) (by omega) ?_
      rw [x3]
      refine pm_istore (L2 := [(0, _), (1, _), (2, _), (3, _), (4, _), (5, _)]) d152_42 (by decide) rfl ?_
      refine pm_iload_n (i := 2) d152_44 rfl rfl ?_
      by_cases hx0 : v = nI 0
      · subst hx0
        rw [ix_nI (by decide) (by decide)] at hh
        refine pm_swIn (off := 35) (tgt := 80) d152_45 (by decide) (by decide) rfl rfl ?_
        refine pm_aload_n (i := 0) d152_80 rfl rfl ?_
        refine pm_iload_n (i := 3) d152_81 rfl rfl ?_
        refine pm_ineg d152_82 ?_
        refine pm_iload d152_83 rfl ?_
        refine pm_iload d152_85 rfl ?_
        refine pm_callV (k2 := 149) (As := [_, _, _]) d152_87 lk_11_200 ok_149 rfl rfl rfl (Nat.le_of_ble_eq_true rfl) rfl rfl rfl rfl rfl ⟨Nat.le_of_ble_eq_true rfl, Nat.le_of_ble_eq_true rfl⟩ (Nat.le_of_ble_eq_true rfl) ?_
        refine sp_149 hI.1.1 hI.1.2.1 hI.2.1.2.1 ?_
        rw [l0]
        refine pm_iret d152_90 rfl (by first | rfl | exact nar_b _) ?_
        exact hh
      by_cases hx1 : v = nI 1
      · subst hx1
        rw [ix_nI (by decide) (by decide)] at hh
        refine pm_swIn (off := 46) (tgt := 91) d152_45 (by decide) (by decide) rfl rfl ?_
        refine pm_aload_n (i := 0) d152_91 rfl rfl ?_
        refine pm_iload_n (i := 3) d152_92 rfl rfl ?_
        refine pm_iload d152_93 rfl ?_
        refine pm_ineg d152_95 ?_
        refine pm_iload d152_96 rfl ?_
        refine pm_callV (k2 := 149) (As := [_, _, _]) d152_98 lk_11_200 ok_149 rfl rfl rfl (Nat.le_of_ble_eq_true rfl) rfl rfl rfl rfl rfl ⟨Nat.le_of_ble_eq_true rfl, Nat.le_of_ble_eq_true rfl⟩ (Nat.le_of_ble_eq_true rfl) ?_
        refine sp_149 hI.1.1 hI.1.2.1 hI.2.1.2.1 ?_
        rw [l1]
        refine pm_iret d152_101 rfl (by first | rfl | exact nar_b _) ?_
        exact hh
      by_cases hx2 : v = nI 2
      · subst hx2
        rw [ix_nI (by decide) (by decide)] at hh
        refine pm_swIn (off := 57) (tgt := 102) d152_45 (by decide) (by decide) rfl rfl ?_
        refine pm_aload_n (i := 0) d152_102 rfl rfl ?_
        refine pm_iload_n (i := 3) d152_103 rfl rfl ?_
        refine pm_iload d152_104 rfl ?_
        refine pm_iload d152_106 rfl ?_
        refine pm_ineg d152_108 ?_
        refine pm_callV (k2 := 149) (As := [_, _, _]) d152_109 lk_11_200 ok_149 rfl rfl rfl (Nat.le_of_ble_eq_true rfl) rfl rfl rfl rfl rfl ⟨Nat.le_of_ble_eq_true rfl, Nat.le_of_ble_eq_true rfl⟩ (Nat.le_of_ble_eq_true rfl) ?_
        refine sp_149 hI.1.1 hI.1.2.1 hI.2.1.2.1 ?_
        rw [l2]
        refine pm_iret d152_112 rfl (by first | rfl | exact nar_b _) ?_
        exact hh
      by_cases hx3 : v = nI 3
      · subst hx3
        rw [ix_nI (by decide) (by decide)] at hh
        refine pm_swIn (off := 68) (tgt := 113) d152_45 (by decide) (by decide) rfl rfl ?_
        refine pm_aload_n (i := 0) d152_113 rfl rfl ?_
        refine pm_iload d152_114 rfl ?_
        refine pm_ineg d152_116 ?_
        refine pm_iload_n (i := 3) d152_117 rfl rfl ?_
        refine pm_iload d152_118 rfl ?_
        refine pm_callV (k2 := 149) (As := [_, _, _]) d152_120 lk_11_200 ok_149 rfl rfl rfl (Nat.le_of_ble_eq_true rfl) rfl rfl rfl rfl rfl ⟨Nat.le_of_ble_eq_true rfl, Nat.le_of_ble_eq_true rfl⟩ (Nat.le_of_ble_eq_true rfl) ?_
        refine sp_149 hI.1.1 hI.1.2.1 hI.2.1.2.1 ?_
        rw [l3]
        refine pm_iret d152_123 rfl (by first | rfl | exact nar_b _) ?_
        exact hh
      by_cases hx4 : v = nI 4
      · subst hx4
        rw [ix_nI (by decide) (by decide)] at hh
        refine pm_swIn (off := 79) (tgt := 124) d152_45 (by decide) (by decide) rfl rfl ?_
        refine pm_aload_n (i := 0) d152_124 rfl rfl ?_
        refine pm_iload d152_125 rfl ?_
        refine pm_iload d152_127 rfl ?_
        refine pm_iload_n (i := 3) d152_129 rfl rfl ?_
        refine pm_callV (k2 := 149) (As := [_, _, _]) d152_130 lk_11_200 ok_149 rfl rfl rfl (Nat.le_of_ble_eq_true rfl) rfl rfl rfl rfl rfl ⟨Nat.le_of_ble_eq_true rfl, Nat.le_of_ble_eq_true rfl⟩ (Nat.le_of_ble_eq_true rfl) ?_
        refine sp_149 hI.1.1 hI.1.2.1 hI.2.1.2.1 ?_
        rw [l4]
        refine pm_iret d152_133 rfl (by first | rfl | exact nar_b _) ?_
        exact hh
      have e8 : ix v 6 = 5 := by
        obtain ⟨n, hn, rfl⟩ := inN_of (by decide) (by decide) c_14
        have n0 : ¬ n = 0 := fun q => hx0 (by rw [q])
        have n1 : ¬ n = 1 := fun q => hx1 (by rw [q])
        have n2 : ¬ n = 2 := fun q => hx2 (by rw [q])
        have n3 : ¬ n = 3 := fun q => hx3 (by rw [q])
        have n4 : ¬ n = 4 := fun q => hx4 (by rw [q])
        rw [show n = 5 by omega]
        exact ix_nI (by decide) (by decide)
      rw [e8] at hh
      refine pm_swOut (tgt := 134) d152_45 (sw_out 5 (by decide) (by decide) (fun j hj => by rcases (show j = 0 ∨ j = 1 ∨ j = 2 ∨ j = 3 ∨ j = 4 by omega) with rfl | rfl | rfl | rfl | rfl <;> assumption)) rfl ?_
      refine pm_aload_n (i := 0) d152_134 rfl rfl ?_
      refine pm_iload_n (i := 3) d152_135 rfl rfl ?_
      refine pm_ineg d152_136 ?_
      refine pm_iload d152_137 rfl ?_
      refine pm_ineg d152_139 ?_
      refine pm_iload d152_140 rfl ?_
      refine pm_ineg d152_142 ?_
      refine pm_callV (k2 := 149) (As := [_, _, _]) d152_143 lk_11_200 ok_149 rfl rfl rfl (Nat.le_of_ble_eq_true rfl) rfl rfl rfl rfl rfl ⟨Nat.le_of_ble_eq_true rfl, Nat.le_of_ble_eq_true rfl⟩ (Nat.le_of_ble_eq_true rfl) ?_
      refine sp_149 hI.1.1 hI.1.2.1 hI.2.1.2.1 ?_
      rw [l5]
      refine pm_iret d152_146 rfl (by first | rfl | exact nar_b _) ?_
      exact hh
    · rw [ix_f c_14] at hh 
      refine pm_sipush (v := -1001) d152_17 (by decide) ?_
      refine pm_iret d152_20 rfl (by first | rfl | exact nar_b _) ?_
      exact hh
theorem opI_lt {o : Option Nat} (h : ∀ k, o = some k → k < 2 ^ 31) : (opI (-1) o < 0 → o = none) ∧ (¬ opI (-1) o < 0 → opI (-1) o = opI (-1004) o) := by
  cases o with
  | none => exact ⟨fun _ => rfl, fun q => absurd (by decide) q⟩
  | some k => exact ⟨fun q => absurd q (nI_pos (h k rfl)), fun _ => rfl⟩
theorem ge_lt {x : Int32} (h : ¬ 0 ≤ x) : x < 0 := by
  rw [Int32.le_iff_toInt_le] at h
  rw [Int32.lt_iff_toInt_lt]
  omega
theorem ge_nlt {x : Int32} (h : 0 ≤ x) : ¬ x < 0 := by
  rw [Int32.le_iff_toInt_le] at h
  rw [Int32.lt_iff_toInt_lt]
  omega
theorem pd_156 {σ : Sig} {u v : Int32} {A : Mem} {Q : Int32 → Mem → Prop} (hC : MW σ A) (h : ∀ A2, MW σ A2 → Q (aStrut σ.1 u v) A2) : pm_P 156 0 [(0, .ref 0), (1, .int u), (2, .int v)] [] A Q := by
  obtain ⟨s, H, x⟩ := σ
  have hI : MI s A := hC.1
  have hb := MI_bd hI
  have hh := h A hC
  unfold aStrut at hh
  dsimp only at hh
  clear h
  refine pm_aload_n (i := 0) d156_0 rfl rfl ?_
  refine pm_iload_n (i := 1) d156_1 rfl rfl ?_
  refine pm_callV (k2 := 144) (As := [_]) d156_2 lk_11_188 ok_144 rfl rfl rfl (Nat.le_of_ble_eq_true rfl) rfl rfl rfl rfl rfl ⟨Nat.le_of_ble_eq_true rfl, Nat.le_of_ble_eq_true rfl⟩ (Nat.le_of_ble_eq_true rfl) ?_
  refine sp_144 hI ?_
  first | refine pm_if_eqB (tgt := 16) d156_5 rfl (fun c_5 => ?_) (fun c_5 => ?_) | refine pm_if_eqN (tgt := 16) d156_5 rfl (by omega) (fun c_5 => ?_) (fun c_5 => ?_) | refine pm_if_eq (tgt := 16) d156_5 rfl (fun c_5 => ?_) (fun c_5 => ?_)
  · rw [c_5, Bool.false_and, if_neg (by decide)] at hh 
    refine pm_sipush (v := -1001) d156_16 (by decide) ?_
    refine pm_iret d156_19 rfl (by first | rfl | exact nar_b _) ?_
    exact hh
  · refine pm_aload_n (i := 0) d156_8 rfl rfl ?_
    refine pm_iload_n (i := 2) d156_9 rfl rfl ?_
    refine pm_callV (k2 := 144) (As := [_]) d156_10 lk_11_188 ok_144 rfl rfl rfl (Nat.le_of_ble_eq_true rfl) rfl rfl rfl rfl rfl ⟨Nat.le_of_ble_eq_true rfl, Nat.le_of_ble_eq_true rfl⟩ (Nat.le_of_ble_eq_true rfl) ?_
    refine sp_144 hI ?_
    first | refine pm_if_neB (tgt := 20) d156_13 rfl (fun c_13 => ?_) (fun c_13 => ?_) | refine pm_if_neN (tgt := 20) d156_13 rfl (by omega) (fun c_13 => ?_) (fun c_13 => ?_) | refine pm_if_ne (tgt := 20) d156_13 rfl (fun c_13 => ?_) (fun c_13 => ?_)
    · rw [c_5, c_13, if_pos (by decide)] at hh
      obtain ⟨a, ha, rfl⟩ := inN_of (by omega) (by omega) c_5
      obtain ⟨b, hb9, rfl⟩ := inN_of (by omega) (by omega) c_13
      rw [nI_clamp (by omega), nI_clamp (by omega)] at hh
      have hop := opI_lt (o := btw (sF s) a b) (fun k hk => by have := btw_lt hI.1.1 hI.1.2.1 ha hk; omega) 
      refine pm_aload_n (i := 0) d156_20 rfl rfl ?_
      refine pm_getR d156_21 lf_11_44 rfl rfl ?_
      refine pm_sipush (v := nI 146) d156_24 (by decide) ?_
      refine pm_iload_n (i := 1) d156_27 rfl rfl ?_
      first | refine pm_imulN d156_28 ?_ | refine pm_imul d156_28 ?_
      refine pm_iload_n (i := 2) d156_29 rfl rfl ?_
      first | refine pm_iaddN d156_30 ?_ | refine pm_iadd d156_30 ?_
      refine pm_ialdN d156_31 rfl (by decide) (by omega) ?_
      rw [MI_bt hI ha hb9]
      refine pm_istore_n (i := 3) (L2 := [(0, _), (1, _), (2, _), (3, _)]) d156_32 rfl (by decide) rfl ?_
      refine pm_iload_n (i := 3) d156_33 rfl rfl ?_
      refine pm_if_ge (tgt := 43) d156_34 rfl (fun c_34 => ?_) (fun c_34 => ?_)
      · refine pm_iload_n (i := 3) d156_43 rfl rfl ?_
        refine pm_iret d156_44 rfl (by first | rfl | exact nar_b _) ?_
        rw [← hop.2 (ge_nlt c_34)] at hh
        exact hh
      · refine pm_sipush (v := -1004) d156_37 (by decide) ?_
        refine pm_goto (tgt := 44) d156_40 rfl ?_
        refine pm_iret d156_44 rfl (by first | rfl | exact nar_b _) ?_
        rw [hop.1 (ge_lt c_34)] at hh
        exact hh
    · rw [c_13, Bool.and_false, if_neg (by decide)] at hh 
      refine pm_sipush (v := -1001) d156_16 (by decide) ?_
      refine pm_iret d156_19 rfl (by first | rfl | exact nar_b _) ?_
      exact hh
-- the way, round by round
theorem bal_mono {s : Stt} {u b n : Nat} : ∀ d, bal s u n b → bal s u (n + d) b := by
  intro d
  induction d with
  | zero => intro h; exact h
  | succ d ih => intro h; exact Or.inl (ih h)
noncomputable def balB (s : Stt) (u n : Nat) : Nat → Bool := fun b => @decide (bal s u n b) (Classical.propDecidable _)
theorem balB_iff {s : Stt} {u n b : Nat} : balB s u n b = true ↔ bal s u n b := by
  unfold balB
  rw [@decide_eq_true_eq _ (Classical.propDecidable _)]
theorem cnt_sub {p q : Nat → Bool} : ∀ n, (∀ i, i < n → p i = true → q i = true) → cnt p n ≤ cnt q n ∧ (cnt q n ≤ cnt p n → ∀ i, i < n → q i = true → p i = true) := by
  intro n
  induction n with
  | zero => intro _; exact ⟨Nat.le_refl _, fun _ i hi9 => absurd hi9 (Nat.not_lt_zero i)⟩
  | succ n ih =>
    intro h
    obtain ⟨a1, a2⟩ := ih (fun i hi9 => h i (by omega))
    have hn := h n (by omega)
    simp only [cnt]
    cases e1 : p n with
    | true =>
      rw [hn e1]
      refine ⟨by omega, fun g i hi9 hq => ?_⟩
      by_cases ei : i = n
      · rw [ei]; exact e1
      · exact a2 (by simpa using g) i (by omega) hq
    | false =>
      cases e2 : q n with
      | true => exact ⟨by simp; omega, fun g => absurd g (by simp; omega)⟩
      | false =>
        refine ⟨by simpa using a1, fun g i hi9 hq => ?_⟩
        by_cases ei : i = n
        · rw [ei, e2] at hq; cases hq
        · exact a2 (by simpa using g) i (by omega) hq
theorem bal_stab {s : Stt} {u : Nat} (hu : u < nh (sF s)) : ∀ m b, b < nh (sF s) → bal s u m b → bal s u (nh (sF s) - 1) b := by
  have hex : ∃ n, n < nh (sF s) ∧ cnt (balB s u (n + 1)) (nh (sF s)) ≤ cnt (balB s u n) (nh (sF s)) := by
    refine Classical.byContradiction (fun hno => ?_)
    have hgr : ∀ n, n ≤ nh (sF s) → n + 1 ≤ cnt (balB s u n) (nh (sF s)) := by
      intro n
      induction n with
      | zero =>
        intro _
        have := cnt_lt (p := balB s u 0) (balB_iff.mpr (show u = u from rfl)) hu
        omega
      | succ n ih =>
        intro hn
        have h1 := ih (by omega)
        rcases Nat.lt_or_ge (cnt (balB s u n) (nh (sF s))) (cnt (balB s u (n + 1)) (nh (sF s))) with q | q
        · omega
        · exact absurd ⟨n, by omega, q⟩ hno
    have h1 := hgr _ (Nat.le_refl _)
    have h2 := cnt_le (balB s u (nh (sF s))) (nh (sF s))
    omega
  obtain ⟨n, hn, hc⟩ := hex
  have hst := (cnt_sub (p := balB s u n) (q := balB s u (n + 1)) (nh (sF s)) (fun i _ h => balB_iff.mpr (Or.inl (balB_iff.mp h)))).2 hc
  have hst2 : ∀ d b, b < nh (sF s) → bal s u (n + d) b → bal s u n b := by
    intro d
    induction d with
    | zero => intro b _ h; exact h
    | succ d ih =>
      intro b hb h
      rcases h with h | ⟨a, ha, h, hE⟩
      · exact ih b hb h
      · exact balB_iff.mp (hst b hb (balB_iff.mpr (Or.inr ⟨a, ha, ih a ha h, hE⟩)))
  intro m b hb h
  have h1 := bal_mono (s := s) (u := u) (b := b) (n := m) n h
  rw [Nat.add_comm] at h1
  have h2 := bal_mono (nh (sF s) - 1 - n) (hst2 m b hb h1)
  rwa [show n + (nh (sF s) - 1 - n) = nh (sF s) - 1 by omega] at h2
def RK (s : Stt) (u n : Nat) (D : Nat → Nat → Prop) (A : Mem) : Prop := ∀ b, b < nh (sF s) → (∃ d, d ≤ n ∧ A 15 b = nI d ∧ bal s u d b ∧ ∀ m, m < d → ¬ bal s u m b) ∨ (A 15 b = nI (n + 1) ∧ bal s u (n + 1) b ∧ ¬ bal s u n b) ∨ (A 15 b = -1 ∧ ¬ bal s u n b ∧ ∀ a, a < nh (sF s) → D a b → ¬ bal s u n a)
theorem RK_set {s : Stt} {u n a b : Nat} {D : Nat → Nat → Prop} {A : Mem} (hn : n < 1000) (h : RK s u n D A) (ha : a < nh (sF s)) (hb : b < nh (sF s)) (hE : Ed s a b) (e1 : A 15 a = nI n) (e2 : A 15 b < 0) : RK s u n (fun x y => D x y ∨ (x = a ∧ y = b)) (mset A 15 b (nI (n + 1))) := by
  intro c hc
  by_cases e : c = b
  · subst e
    right; left
    have hnb : ¬ bal s u n c := by
      rcases h c hc with ⟨d, q1, q2, -⟩ | ⟨q1, -⟩ | ⟨-, q, -⟩
      · rw [q2] at e2; exact absurd e2 (nI_pos (by omega))
      · rw [q1] at e2; exact absurd e2 (nI_pos (by omega))
      · exact q
    have hba : bal s u n a := by
      rcases h a ha with ⟨d, q1, q2, q3, -⟩ | ⟨q1, -⟩ | ⟨q, -⟩
      · rw [q2] at e1
        rw [(nI_inj (by omega) (by omega)).mp e1] at q3
        exact q3
      · rw [q1] at e1
        have := (nI_inj (by omega) (by omega)).mp e1
        omega
      · rw [q] at e1
        have := nI_pos (n := n) (by omega)
        rw [← e1] at this
        exact absurd (by decide) this
    exact ⟨mset_at _ _ _ _, Or.inr ⟨a, ha, hba, hE⟩, hnb⟩
  · rw [mset_ne e]
    rcases h c hc with q | q | ⟨q1, q2, q3⟩
    · exact Or.inl q
    · exact Or.inr (Or.inl q)
    · exact Or.inr (Or.inr ⟨q1, q2, fun x hx9 hD => by
        rcases hD with hD | hD
        · exact q3 x hx9 hD
        · exact absurd hD.2 e⟩)
theorem RK_skip {s : Stt} {u n a b : Nat} {D : Nat → Nat → Prop} {A : Mem} (h : RK s u n D A) (ha : a < nh (sF s)) (hE : Ed s a b) (hno : ¬ (A 15 a = nI n ∧ A 15 b < 0)) : RK s u n (fun x y => D x y ∨ (x = a ∧ y = b)) A := by
  intro c hc
  rcases h c hc with q | q | ⟨q1, q2, q3⟩
  · exact Or.inl q
  · exact Or.inr (Or.inl q)
  · refine Or.inr (Or.inr ⟨q1, q2, fun x hx9 hD => ?_⟩)
    rcases hD with hD | ⟨rfl, rfl⟩
    · exact q3 x hx9 hD
    · intro hba
      rcases h x ha with ⟨d, p1, p2, p3, -⟩ | ⟨-, -, p⟩ | ⟨-, p, -⟩
      · by_cases ed : d = n
        · subst ed
          exact hno ⟨p2, by rw [q1]; decide⟩
        · have h1 : bal s u (d + 1) c := Or.inr ⟨x, ha, p3, hE⟩
          have h2 := bal_mono (n - (d + 1)) h1
          rw [show d + 1 + (n - (d + 1)) = n by omega] at h2
          exact q2 h2
      · exact p hba
      · exact p hba
theorem sp_154 {a b n : Nat} {A : Mem} {Q : Int32 → Mem → Prop} (ha : a < 146) (hb : b < 146) (h1 : A 15 a = nI n → A 15 b < 0 → Q 0 (mset A 15 b (nI (n + 1)))) (h0 : ¬ (A 15 a = nI n ∧ A 15 b < 0) → Q 0 A) : pm_P 154 0 [(0, .ref 0), (1, .int (nI a)), (2, .int (nI b)), (3, .int (nI n))] [] A Q := by
  refine pm_aload_n (i := 0) d154_0 rfl rfl ?_
  refine pm_getR d154_1 lf_11_53 rfl rfl ?_
  refine pm_iload_n (i := 1) d154_4 rfl rfl ?_
  refine pm_ialdN d154_5 rfl (by decide) (by omega) ?_
  refine pm_iload_n (i := 3) d154_6 rfl rfl ?_
  refine pm_icmp_ne (tgt := 28) d154_7 rfl (fun c_7 => ?_) (fun c_7 => ?_)
  · refine pm_vret d154_28 rfl ?_
    exact h0 (fun q => c_7 q.1)
  · refine pm_aload_n (i := 0) d154_10 rfl rfl ?_
    refine pm_getR d154_11 lf_11_53 rfl rfl ?_
    refine pm_iload_n (i := 2) d154_14 rfl rfl ?_
    refine pm_ialdN d154_15 rfl (by decide) (by omega) ?_
    refine pm_if_ge (tgt := 28) d154_16 rfl (fun c_16 => ?_) (fun c_16 => ?_)
    · refine pm_vret d154_28 rfl ?_
      exact h0 (fun q => ge_nlt c_16 q.2)
    · refine pm_aload_n (i := 0) d154_19 rfl rfl ?_
      refine pm_getR d154_20 lf_11_53 rfl rfl ?_
      refine pm_iload_n (i := 2) d154_23 rfl rfl ?_
      refine pm_iload_n (i := 3) d154_24 rfl rfl ?_
      refine pm_iconst (v := nI 1) d154_25 (by decide) ?_
      first | refine pm_iaddN d154_26 ?_ | refine pm_iadd d154_26 ?_
      refine pm_iastN d154_27 rfl (by decide) (by omega) ?_
      refine pm_vret d154_28 rfl ?_
      exact h1 c_7 (ge_lt c_16)
def RD (s : Stt) (k : Nat) (x y : Nat) : Prop := ∃ i, i < k ∧ opn s i = true ∧ ((lo (sF s) i = x ∧ hi (sF s) i = y) ∨ (hi (sF s) i = x ∧ lo (sF s) i = y))
theorem RK_weak {s : Stt} {u n : Nat} {D D2 : Nat → Nat → Prop} {A : Mem} (h : RK s u n D A) (hD : ∀ x y, D2 x y → D x y) : RK s u n D2 A := by
  intro c hc
  rcases h c hc with q | q | ⟨q1, q2, q3⟩
  · exact Or.inl q
  · exact Or.inr (Or.inl q)
  · exact Or.inr (Or.inr ⟨q1, q2, fun x hx9 g => q3 x hx9 (hD x c g)⟩)
theorem pd_153 {σ : Sig} {u v : Int32} {A : Mem} {Q : Int32 → Mem → Prop} (hC : MW σ A) (h : ∀ A2, MW σ A2 → Q (aWay σ.1 u v) A2) : pm_P 153 0 [(0, .ref 0), (1, .int u), (2, .int v)] [] A Q := by
  obtain ⟨s, H, x⟩ := σ
  have hI : MI s A := hC.1
  have hb := MI_bd hI
  have F1 := hI.1.1
  have F6 := hI.1.2.1
  unfold aWay at h
  dsimp only at h
  have fin : ∀ a b, a < nh (sF s) → b < nh (sF s) → (∀ A2, MW (s, H, x) A2 → Q (wayA s a b) A2) → ∀ k n, k + n = nh (sF s) → ∀ A1 : Mem, (∀ c, c ≠ 15 → A1 c = A c) → RK s a n (fun _ _ => False) A1 → (∀ b, b < nh (sF s) → ¬ A1 15 b = nI (n + 1)) → pm_P 153 74 [(0, .ref 0), (1, .int (nI a)), (2, .int (nI b)), (3, .int (nI n))] [] A1 Q := by
    intro a b ha hb9 hq
    have k171 : ∀ n, n ≤ nh (sF s) → ∀ A1 : Mem, (∀ c, c ≠ 15 → A1 c = A c) → RK s a n (fun _ _ => False) A1 → (∀ b, b < nh (sF s) → ¬ A1 15 b = nI (n + 1)) → (n = nh (sF s) ∨ ¬ A1 15 b < 0) → pm_P 153 171 [(0, .ref 0), (1, .int (nI a)), (2, .int (nI b)), (3, .int (nI n))] [] A1 Q := by
      intro n hn A1 g1 g2 g3 g4
      have hh := hq A1 (MW_keep hC (fun j _ => by rw [g1 0 (by decide)]) (fun c _ hc => g1 c (by omega)))
      rcases g2 b hb9 with ⟨d, q1, q2, q3, q4⟩ | ⟨q1, -⟩ | ⟨q1, q2, -⟩
      · have hd : d < 146 := by
          rcases Nat.lt_or_ge d (nh (sF s)) with g | g
          · omega
          · exact absurd (bal_stab ha d b hb9 q3) (q4 _ (by omega))
        rw [wayA_eq (x := nI d) (Or.inl ⟨d, hd, rfl, q3, q4⟩)] at hh
        refine pm_aload_n (i := 0) d153_171 rfl rfl ?_
        refine pm_getR d153_172 lf_11_53 rfl rfl ?_
        refine pm_iload_n (i := 2) d153_175 rfl rfl ?_
        refine pm_ialdN d153_176 rfl (by decide) (by omega) ?_
        rw [q2]
        refine pm_if_ge (tgt := 186) d153_177 rfl (fun c_177 => ?_) (fun c_177 => ?_)
        · refine pm_aload_n (i := 0) d153_186 rfl rfl ?_
          refine pm_getR d153_187 lf_11_53 rfl rfl ?_
          refine pm_iload_n (i := 2) d153_190 rfl rfl ?_
          refine pm_ialdN d153_191 rfl (by decide) (by omega) ?_
          rw [q2]
          refine pm_iret d153_192 rfl (by first | rfl | exact nar_b _) ?_
          exact hh
        · exact absurd (nI_pos' (by omega)) c_177
      · exact absurd q1 (g3 b hb9)
      · have en : n = nh (sF s) := by
          rcases g4 with g | g
          · exact g
          · rw [q1] at g; exact absurd (by decide) g
        have hno : ∀ m, ¬ bal s a m b := fun m hm => by
          have h1 := bal_mono 1 (bal_stab ha m b hb9 hm)
          rw [show nh (sF s) - 1 + 1 = n by omega] at h1
          exact q2 h1
        rw [wayA_eq (x := -1004) (Or.inr ⟨rfl, hno⟩)] at hh
        refine pm_aload_n (i := 0) d153_171 rfl rfl ?_
        refine pm_getR d153_172 lf_11_53 rfl rfl ?_
        refine pm_iload_n (i := 2) d153_175 rfl rfl ?_
        refine pm_ialdN d153_176 rfl (by decide) (by omega) ?_
        rw [q1]
        refine pm_if_ge (tgt := 186) d153_177 rfl (fun c_177 => ?_) (fun c_177 => ?_)
        · exact absurd c_177 (by decide)
        · refine pm_sipush (v := -1004) d153_180 (by decide) ?_
          refine pm_goto (tgt := 192) d153_183 rfl ?_
          refine pm_iret d153_192 rfl (by first | rfl | exact nar_b _) ?_
          exact hh
    intro k
    induction k with
    | zero =>
      intro n hn A1 g1 g2 g3
      have hI1 : MI s A1 := MI_keep hI (fun j _ _ => by rw [g1 0 (by decide)]) (fun c _ hc => g1 c (by omega)) (g1 1 (by decide))
      refine pm_iload_n (i := 3) d153_74 rfl rfl ?_
      refine pm_aload_n (i := 0) d153_75 rfl rfl ?_
      refine pm_getE d153_76 lf_11_76 rfl rfl (MI_nh hI1) ?_
      first | refine pm_icmp_geN (tgt := 171) d153_79 rfl (by omega) (by omega) (fun c_79 => ?_) (fun c_79 => ?_) | refine pm_icmp_ge (tgt := 171) d153_79 rfl (fun c_79 => ?_) (fun c_79 => ?_)
      · exact k171 n (by omega) A1 g1 g2 g3 (Or.inl (by omega))
      · omega
    | succ k ih =>
      intro n hn A1 g1 g2 g3
      have hI1 : MI s A1 := MI_keep hI (fun j _ _ => by rw [g1 0 (by decide)]) (fun c _ hc => g1 c (by omega)) (g1 1 (by decide))
      have inner : ∀ i, i ≤ ns (sF s) → ∀ A1 : Mem, (∀ c, c ≠ 15 → A1 c = A c) → RK s a n (RD s i) A1 → pm_P 153 94 [(0, .ref 0), (1, .int (nI a)), (2, .int (nI b)), (3, .int (nI n)), (4, .int (nI i))] [] A1 Q := by
        refine up_ind (fun i hi9 ih2 A1 g1 g2 => ?_)
        have hI1 : MI s A1 := MI_keep hI (fun j _ _ => by rw [g1 0 (by decide)]) (fun c _ hc => g1 c (by omega)) (g1 1 (by decide))
        by_cases hlt : i < ns (sF s)
        · obtain ⟨l1, l2, -, -⟩ := bd_s F1 F6 hlt
          obtain ⟨e7, e8⟩ := MI_lo hI1 hlt
          have k140 : ∀ A2 : Mem, opn s i = true → (∀ c, c ≠ 15 → A2 c = A c) → RK s a n (fun p q => RD s i p q ∨ (p = lo (sF s) i ∧ q = hi (sF s) i)) A2 → pm_P 153 140 [(0, .ref 0), (1, .int (nI a)), (2, .int (nI b)), (3, .int (nI n)), (4, .int (nI i))] [] A2 Q := by
            intro A2 ho f1 f2
            have hE : Ed s (hi (sF s) i) (lo (sF s) i) := ⟨i, hlt, ho, Or.inr ⟨rfl, rfl⟩⟩
            have hD : ∀ p q, RD s (i + 1) p q → (RD s i p q ∨ (p = lo (sF s) i ∧ q = hi (sF s) i)) ∨ (p = hi (sF s) i ∧ q = lo (sF s) i) := by
              intro p q ⟨j, j1, j2, j3⟩
              by_cases ej : j = i
              · subst ej
                rcases j3 with j3 | j3
                · exact Or.inl (Or.inr ⟨j3.1.symm, j3.2.symm⟩)
                · exact Or.inr ⟨j3.1.symm, j3.2.symm⟩
              · exact Or.inl (Or.inl ⟨j, by omega, j2, j3⟩)
            refine pm_aload_n (i := 0) d153_140 rfl rfl ?_
            refine pm_aload_n (i := 0) d153_141 rfl rfl ?_
            refine pm_getR d153_142 lf_11_32 rfl rfl ?_
            refine pm_iload d153_145 rfl ?_
            refine pm_ialdN d153_147 rfl (by decide) (by omega) ?_
            rw [f1 8 (by decide), ← g1 8 (by decide), e8]
            refine pm_aload_n (i := 0) d153_148 rfl rfl ?_
            refine pm_getR d153_149 lf_11_29 rfl rfl ?_
            refine pm_iload d153_152 rfl ?_
            refine pm_ialdN d153_154 rfl (by decide) (by omega) ?_
            rw [f1 7 (by decide), ← g1 7 (by decide), e7]
            refine pm_iload_n (i := 3) d153_155 rfl rfl ?_
            refine pm_callVv (k2 := 154) (As := [_, _, _]) d153_156 lk_11_204 ok_154 rfl rfl rfl (Nat.le_of_ble_eq_true rfl) rfl rfl rfl rfl rfl ⟨Nat.le_of_ble_eq_true rfl, Nat.le_of_ble_eq_true rfl⟩ (Nat.le_of_ble_eq_true rfl) ?_
            refine sp_154 (by omega) (by omega) (fun q1 q2 => ?_) (fun q => ?_)
            · refine pm_iincN 1 (L2 := [(0, _), (1, _), (2, _), (3, _), (4, _)]) d153_159 rfl (by decide) rfl ?_
              refine pm_goto (tgt := 94) d153_162 rfl ?_
              exact ih2 hlt _ (fun c hc => by rw [mset_other hc]; exact f1 c hc) (RK_weak (RK_set (by omega) f2 l2 (by omega) hE q1 q2) hD)
            first | refine pm_iincN 1 (L2 := [(0, _), (1, _), (2, _), (3, _), (4, _)]) d153_159 rfl (by decide) rfl ?_ | refine pm_iinc (L2 := [(0, _), (1, _), (2, _), (3, _), (4, _)]) d153_159 rfl rfl (by decide) rfl ?_
            refine pm_goto (tgt := 94) d153_162 rfl ?_
            exact ih2 hlt A2 f1 (RK_weak (RK_skip f2 l2 hE q) hD)
          refine pm_iload d153_94 rfl ?_
          refine pm_aload_n (i := 0) d153_96 rfl rfl ?_
          refine pm_getE d153_97 lf_11_90 rfl rfl (MI_ns hI1) ?_
          first | refine pm_icmp_geN (tgt := 165) d153_100 rfl (by omega) (by omega) (fun c_100 => ?_) (fun c_100 => ?_) | refine pm_icmp_ge (tgt := 165) d153_100 rfl (fun c_100 => ?_) (fun c_100 => ?_)
          · omega
          · refine pm_aload_n (i := 0) d153_103 rfl rfl ?_
            refine pm_iload d153_104 rfl ?_
            refine pm_callV (k2 := 134) (As := [_]) d153_106 lk_11_166 ok_134 rfl rfl rfl (Nat.le_of_ble_eq_true rfl) rfl rfl rfl rfl rfl ⟨Nat.le_of_ble_eq_true rfl, Nat.le_of_ble_eq_true rfl⟩ (Nat.le_of_ble_eq_true rfl) ?_
            refine sp_134 hI1 hlt ?_
            first | refine pm_if_eqB (tgt := 159) d153_109 rfl (fun c_109 => ?_) (fun c_109 => ?_) | refine pm_if_eqN (tgt := 159) d153_109 rfl (by omega) (fun c_109 => ?_) (fun c_109 => ?_) | refine pm_if_eq (tgt := 159) d153_109 rfl (fun c_109 => ?_) (fun c_109 => ?_)
            · first | refine pm_iincN 1 (L2 := [(0, _), (1, _), (2, _), (3, _), (4, _)]) d153_159 rfl (by decide) rfl ?_ | refine pm_iinc (L2 := [(0, _), (1, _), (2, _), (3, _), (4, _)]) d153_159 rfl rfl (by decide) rfl ?_
              refine pm_goto (tgt := 94) d153_162 rfl ?_
              exact ih2 hlt A1 g1 (RK_weak g2 (fun p q ⟨j, j1, j2, j3⟩ => by
                by_cases ej : j = i
                · subst ej
                  unfold opn at j2
                  rw [c_109] at j2
                  cases j2
                · exact ⟨j, by omega, j2, j3⟩))
            · refine pm_aload_n (i := 0) d153_112 rfl rfl ?_
              refine pm_iload d153_113 rfl ?_
              refine pm_callV (k2 := 135) (As := [_]) d153_115 lk_11_163 ok_135 rfl rfl rfl (Nat.le_of_ble_eq_true rfl) rfl rfl rfl rfl rfl ⟨Nat.le_of_ble_eq_true rfl, Nat.le_of_ble_eq_true rfl⟩ (Nat.le_of_ble_eq_true rfl) ?_
              refine sp_135 hI1 (by omega) ?_
              first | refine pm_if_neB (tgt := 159) d153_118 rfl (fun c_118 => ?_) (fun c_118 => ?_) | refine pm_if_neN (tgt := 159) d153_118 rfl (by omega) (fun c_118 => ?_) (fun c_118 => ?_) | refine pm_if_ne (tgt := 159) d153_118 rfl (fun c_118 => ?_) (fun c_118 => ?_)
              · first | refine pm_iincN 1 (L2 := [(0, _), (1, _), (2, _), (3, _), (4, _)]) d153_159 rfl (by decide) rfl ?_ | refine pm_iinc (L2 := [(0, _), (1, _), (2, _), (3, _), (4, _)]) d153_159 rfl rfl (by decide) rfl ?_
                refine pm_goto (tgt := 94) d153_162 rfl ?_
                exact ih2 hlt A1 g1 (RK_weak g2 (fun p q ⟨j, j1, j2, j3⟩ => by
                  by_cases ej : j = i
                  · subst ej
                    unfold opn at j2
                    rw [c_118, Bool.not_true, Bool.and_false] at j2
                    cases j2
                  · exact ⟨j, by omega, j2, j3⟩))
              · have ho : opn s i = true := by unfold opn; rw [c_109, c_118]; rfl
                have hE : Ed s (lo (sF s) i) (hi (sF s) i) := ⟨i, hlt, ho, Or.inl ⟨rfl, rfl⟩⟩ 
                refine pm_aload_n (i := 0) d153_121 rfl rfl ?_
                refine pm_aload_n (i := 0) d153_122 rfl rfl ?_
                refine pm_getR d153_123 lf_11_29 rfl rfl ?_
                refine pm_iload d153_126 rfl ?_
                refine pm_ialdN d153_128 rfl (by decide) (by omega) ?_
                rw [e7]
                refine pm_aload_n (i := 0) d153_129 rfl rfl ?_
                refine pm_getR d153_130 lf_11_32 rfl rfl ?_
                refine pm_iload d153_133 rfl ?_
                refine pm_ialdN d153_135 rfl (by decide) (by omega) ?_
                rw [e8]
                refine pm_iload_n (i := 3) d153_136 rfl rfl ?_
                refine pm_callVv (k2 := 154) (As := [_, _, _]) d153_137 lk_11_204 ok_154 rfl rfl rfl (Nat.le_of_ble_eq_true rfl) rfl rfl rfl rfl rfl ⟨Nat.le_of_ble_eq_true rfl, Nat.le_of_ble_eq_true rfl⟩ (Nat.le_of_ble_eq_true rfl) ?_
                refine sp_154 (by omega) (by omega) (fun q1 q2 => ?_) (fun q => ?_)
                · exact k140 _ ho (fun c hc => by rw [mset_other hc]; exact g1 c hc) (RK_set (by omega) g2 (by omega) l2 hE q1 q2)
                exact k140 A1 ho g1 (RK_skip g2 (by omega) hE q)
        · have ei : i = ns (sF s) := by omega
          subst ei
          refine pm_iload d153_94 rfl ?_
          refine pm_aload_n (i := 0) d153_96 rfl rfl ?_
          refine pm_getE d153_97 lf_11_90 rfl rfl (MI_ns hI1) ?_
          first | refine pm_icmp_geN (tgt := 165) d153_100 rfl (by omega) (by omega) (fun c_100 => ?_) (fun c_100 => ?_) | refine pm_icmp_ge (tgt := 165) d153_100 rfl (fun c_100 => ?_) (fun c_100 => ?_)
          · first | refine pm_iincN 1 (L2 := [(0, _), (1, _), (2, _), (3, _), (4, _)]) d153_165 rfl (by decide) rfl ?_ | refine pm_iinc (L2 := [(0, _), (1, _), (2, _), (3, _), (4, _)]) d153_165 rfl rfl (by decide) rfl ?_
            refine pm_goto (tgt := 74) d153_168 rfl ?_
            refine pm_pick [0, 1, 2, 3] (L2 := [(0, _), (1, _), (2, _), (3, _)]) rfl ?_
            refine ih (n + 1) (by omega) A1 g1 (fun c hc => ?_) (fun c hc e => ?_)
            · rcases g2 c hc with ⟨d, q1, q2, q3, q4⟩ | ⟨q1, q2, q3⟩ | ⟨q1, q2, q3⟩
              · exact Or.inl ⟨d, by omega, q2, q3, q4⟩
              · refine Or.inl ⟨n + 1, Nat.le_refl _, q1, q2, fun m hm hbm => ?_⟩
                have := bal_mono (n - m) hbm
                rw [show m + (n - m) = n by omega] at this
                exact q3 this
              · refine Or.inr (Or.inr ⟨q1, fun hbl => ?_, fun _ _ f => f.elim⟩)
                rcases hbl with hbl | ⟨y, hy9, hbl, hE⟩
                · exact q2 hbl
                · exact q3 y hy9 hE hbl
            · rcases g2 c hc with ⟨d, q1, q2, -⟩ | ⟨q1, -⟩ | ⟨q1, -⟩
              · rw [q2] at e
                have := (nI_inj (by omega) (by omega)).mp e
                omega
              · rw [q1] at e
                have := (nI_inj (by omega) (by omega)).mp e
                omega
              · rw [q1] at e
                have := nI_pos (n := n + 1 + 1) (by omega)
                rw [← e] at this
                exact absurd (by decide) this
          · omega
      refine pm_iload_n (i := 3) d153_74 rfl rfl ?_
      refine pm_aload_n (i := 0) d153_75 rfl rfl ?_
      refine pm_getE d153_76 lf_11_76 rfl rfl (MI_nh hI1) ?_
      first | refine pm_icmp_geN (tgt := 171) d153_79 rfl (by omega) (by omega) (fun c_79 => ?_) (fun c_79 => ?_) | refine pm_icmp_ge (tgt := 171) d153_79 rfl (fun c_79 => ?_) (fun c_79 => ?_)
      · omega
      · refine pm_aload_n (i := 0) d153_82 rfl rfl ?_
        refine pm_getR d153_83 lf_11_53 rfl rfl ?_
        refine pm_iload_n (i := 2) d153_86 rfl rfl ?_
        refine pm_ialdN d153_87 rfl (by decide) (by omega) ?_
        refine pm_if_ge (tgt := 171) d153_88 rfl (fun c_88 => ?_) (fun c_88 => ?_)
        · exact k171 n (by omega) A1 g1 g2 g3 (Or.inr (ge_nlt c_88))
        · refine pm_iconst (v := nI 0) d153_91 (by decide) ?_
          refine pm_istore (L2 := [(0, _), (1, _), (2, _), (3, _), (4, _)]) d153_92 (by decide) rfl ?_
          refine inner 0 (Nat.zero_le _) A1 g1 (RK_weak g2 (fun p q ⟨j, j1, _⟩ => absurd j1 (Nat.not_lt_zero j)))
  have first9 : ∀ a b, a < nh (sF s) → b < nh (sF s) → (∀ A2, MW (s, H, x) A2 → Q (wayA s a b) A2) → ∀ i, i ≤ nh (sF s) → ∀ A1 : Mem, (∀ c, c ≠ 15 → A1 c = A c) → (∀ j, j < i → A1 15 j = if j = a then nI 0 else -1) → pm_P 153 42 [(0, .ref 0), (1, .int (nI a)), (2, .int (nI b)), (3, .int (nI i))] [] A1 Q := by
    intro a b ha hb9 hq
    refine up_ind (fun i hi9 ih A1 g1 g2 => ?_)
    have hI1 : MI s A1 := MI_keep hI (fun j _ _ => by rw [g1 0 (by decide)]) (fun c _ hc => g1 c (by omega)) (g1 1 (by decide))
    refine pm_iload_n (i := 3) d153_42 rfl rfl ?_
    refine pm_aload_n (i := 0) d153_43 rfl rfl ?_
    refine pm_getE d153_44 lf_11_76 rfl rfl (MI_nh hI1) ?_
    first | refine pm_icmp_geN (tgt := 72) d153_47 rfl (by omega) (by omega) (fun c_47 => ?_) (fun c_47 => ?_) | refine pm_icmp_ge (tgt := 72) d153_47 rfl (fun c_47 => ?_) (fun c_47 => ?_)
    · refine pm_iconst (v := nI 0) d153_72 (by decide) ?_
      refine pm_istore_n (i := 3) (L2 := [(0, _), (1, _), (2, _), (3, _)]) d153_73 rfl (by decide) rfl ?_
      refine fin a b ha hb9 hq (nh (sF s)) 0 rfl A1 g1 (fun c hc => ?_) (fun c hc e => ?_)
      · by_cases e : c = a
        · exact Or.inl ⟨0, Nat.le_refl _, by rw [g2 c (by omega), if_pos e], e, fun m hm => absurd hm (Nat.not_lt_zero m)⟩
        · exact Or.inr (Or.inr ⟨by rw [g2 c (by omega), if_neg e], e, fun _ _ f => f.elim⟩)
      · rw [g2 c (by omega)] at e
        by_cases e2 : c = a
        · rw [if_pos e2] at e
          exact absurd e (by decide)
        · rw [if_neg e2] at e
          exact absurd e (by decide)
    · refine pm_aload_n (i := 0) d153_50 rfl rfl ?_
      refine pm_getR d153_51 lf_11_53 rfl rfl ?_
      refine pm_iload_n (i := 3) d153_54 rfl rfl ?_
      refine pm_iload_n (i := 3) d153_55 rfl rfl ?_
      refine pm_iload_n (i := 1) d153_56 rfl rfl ?_
      first | refine pm_icmp_neN (tgt := 64) d153_57 rfl (by omega) (by omega) (fun c_57 => ?_) (fun c_57 => ?_) | refine pm_icmp_ne (tgt := 64) d153_57 rfl (fun c_57 => ?_) (fun c_57 => ?_)
      · refine pm_iconst (v := -1) d153_64 (by decide) ?_
        refine pm_iastN d153_65 rfl (by decide) (by omega) ?_
        first | refine pm_iincN 1 (L2 := [(0, _), (1, _), (2, _), (3, _)]) d153_66 rfl (by decide) rfl ?_ | refine pm_iinc (L2 := [(0, _), (1, _), (2, _), (3, _)]) d153_66 rfl rfl (by decide) rfl ?_
        refine pm_goto (tgt := 42) d153_69 rfl ?_
        refine ih c_47 _ (fun c hc => by rw [mset_other hc]; exact g1 c hc) (fun j hj => ?_)
        by_cases e : j = i
        · rw [e, mset_at, if_neg c_57]
        · rw [mset_ne e]; exact g2 j (by omega)
      · refine pm_iconst (v := nI 0) d153_60 (by decide) ?_
        refine pm_goto (tgt := 65) d153_61 rfl ?_
        refine pm_iastN d153_65 rfl (by decide) (by omega) ?_
        first | refine pm_iincN 1 (L2 := [(0, _), (1, _), (2, _), (3, _)]) d153_66 rfl (by decide) rfl ?_ | refine pm_iinc (L2 := [(0, _), (1, _), (2, _), (3, _)]) d153_66 rfl rfl (by decide) rfl ?_
        refine pm_goto (tgt := 42) d153_69 rfl ?_
        refine ih c_47 _ (fun c hc => by rw [mset_other hc]; exact g1 c hc) (fun j hj => ?_)
        by_cases e : j = i
        · rw [e, mset_at, if_pos c_57]
        · rw [mset_ne e]; exact g2 j (by omega)
  refine pm_aload_n (i := 0) d153_0 rfl rfl ?_
  refine pm_iload_n (i := 1) d153_1 rfl rfl ?_
  refine pm_callV (k2 := 144) (As := [_]) d153_2 lk_11_188 ok_144 rfl rfl rfl (Nat.le_of_ble_eq_true rfl) rfl rfl rfl rfl rfl ⟨Nat.le_of_ble_eq_true rfl, Nat.le_of_ble_eq_true rfl⟩ (Nat.le_of_ble_eq_true rfl) ?_
  refine sp_144 hI ?_
  first | refine pm_if_eqB (tgt := 16) d153_5 rfl (fun c_5 => ?_) (fun c_5 => ?_) | refine pm_if_eqN (tgt := 16) d153_5 rfl (by omega) (fun c_5 => ?_) (fun c_5 => ?_) | refine pm_if_eq (tgt := 16) d153_5 rfl (fun c_5 => ?_) (fun c_5 => ?_)
  · rw [c_5, Bool.false_and, if_neg (by decide)] at h 
    refine pm_sipush (v := -1001) d153_16 (by decide) ?_
    refine pm_iret d153_19 rfl (by first | rfl | exact nar_b _) ?_
    exact h A hC
  · refine pm_aload_n (i := 0) d153_8 rfl rfl ?_
    refine pm_iload_n (i := 2) d153_9 rfl rfl ?_
    refine pm_callV (k2 := 144) (As := [_]) d153_10 lk_11_188 ok_144 rfl rfl rfl (Nat.le_of_ble_eq_true rfl) rfl rfl rfl rfl rfl ⟨Nat.le_of_ble_eq_true rfl, Nat.le_of_ble_eq_true rfl⟩ (Nat.le_of_ble_eq_true rfl) ?_
    refine sp_144 hI ?_
    first | refine pm_if_neB (tgt := 20) d153_13 rfl (fun c_13 => ?_) (fun c_13 => ?_) | refine pm_if_neN (tgt := 20) d153_13 rfl (by omega) (fun c_13 => ?_) (fun c_13 => ?_) | refine pm_if_ne (tgt := 20) d153_13 rfl (fun c_13 => ?_) (fun c_13 => ?_)
    · rw [c_5, c_13, if_pos (by decide)] at h
      obtain ⟨a, ha, rfl⟩ := inN_of (by omega) (by omega) c_5
      obtain ⟨b, hb9, rfl⟩ := inN_of (by omega) (by omega) c_13
      rw [nI_clamp (by omega), nI_clamp (by omega)] at h 
      refine pm_aload_n (i := 0) d153_20 rfl rfl ?_
      refine pm_iload_n (i := 1) d153_21 rfl rfl ?_
      refine pm_callV (k2 := 130) (As := [_]) d153_22 lk_11_140 ok_130 rfl rfl rfl (Nat.le_of_ble_eq_true rfl) rfl rfl rfl rfl rfl ⟨Nat.le_of_ble_eq_true rfl, Nat.le_of_ble_eq_true rfl⟩ (Nat.le_of_ble_eq_true rfl) ?_
      refine sp_130 hI ha ?_
      first | refine pm_if_eqB (tgt := 36) d153_25 rfl (fun c_25 => ?_) (fun c_25 => ?_) | refine pm_if_eqN (tgt := 36) d153_25 rfl (by omega) (fun c_25 => ?_) (fun c_25 => ?_) | refine pm_if_eq (tgt := 36) d153_25 rfl (fun c_25 => ?_) (fun c_25 => ?_)
      · rw [c_25, Bool.false_and, if_neg (by decide)] at h 
        refine pm_sipush (v := -1002) d153_36 (by decide) ?_
        refine pm_iret d153_39 rfl (by first | rfl | exact nar_b _) ?_
        exact h A hC
      · refine pm_aload_n (i := 0) d153_28 rfl rfl ?_
        refine pm_iload_n (i := 2) d153_29 rfl rfl ?_
        refine pm_callV (k2 := 130) (As := [_]) d153_30 lk_11_140 ok_130 rfl rfl rfl (Nat.le_of_ble_eq_true rfl) rfl rfl rfl rfl rfl ⟨Nat.le_of_ble_eq_true rfl, Nat.le_of_ble_eq_true rfl⟩ (Nat.le_of_ble_eq_true rfl) ?_
        refine sp_130 hI hb9 ?_
        first | refine pm_if_neB (tgt := 40) d153_33 rfl (fun c_33 => ?_) (fun c_33 => ?_) | refine pm_if_neN (tgt := 40) d153_33 rfl (by omega) (fun c_33 => ?_) (fun c_33 => ?_) | refine pm_if_ne (tgt := 40) d153_33 rfl (fun c_33 => ?_) (fun c_33 => ?_)
        · rw [c_25, c_33, if_pos (by decide)] at h 
          refine pm_iconst (v := nI 0) d153_40 (by decide) ?_
          refine pm_istore_n (i := 3) (L2 := [(0, _), (1, _), (2, _), (3, _)]) d153_41 rfl (by decide) rfl ?_
          exact first9 a b ha hb9 h 0 (Nat.zero_le _) A (fun _ _ => rfl) (fun j hj => absurd hj (Nat.not_lt_zero j))
        · rw [c_33, Bool.and_false, if_neg (by decide)] at h 
          refine pm_sipush (v := -1002) d153_36 (by decide) ?_
          refine pm_iret d153_39 rfl (by first | rfl | exact nar_b _) ?_
          exact h A hC
    · rw [c_13, Bool.and_false, if_neg (by decide)] at h 
      refine pm_sipush (v := -1001) d153_16 (by decide) ?_
      refine pm_iret d153_19 rfl (by first | rfl | exact nar_b _) ?_
      exact h A hC
