/-! THE REFERENCE'S STOCK -/
def gK (s : Stt) (R k : Nat) : Nat := if ks s k = true then lnS s R k else 0
theorem mxN_iff {g : Nat → Nat} {c : Nat} : ∀ n, mxN g n ≤ c ↔ ∀ i, i < n → g i ≤ c := by
  intro n
  induction n with
  | zero => exact ⟨fun _ i h => absurd h (Nat.not_lt_zero i), fun _ => Nat.zero_le _⟩
  | succ n ih =>
    simp only [mxN]
    constructor
    · intro h i hi9
      by_cases q : mxN g n < g n
      · rw [if_pos q] at h
        by_cases e : i = n
        · rw [e]; exact h
        · exact ih.mp (by omega) i (by omega)
      · rw [if_neg q] at h
        by_cases e : i = n
        · rw [e]; omega
        · exact ih.mp h i (by omega)
    · intro h
      by_cases q : mxN g n < g n
      · rw [if_pos q]; exact h n (by omega)
      · rw [if_neg q]; exact ih.mpr (fun i hi9 => h i (by omega))
theorem long_fits {s : Stt} {R B : Nat} : mxN (gK s R) (ns (sF s)) ≤ B ↔ fits s R B := by
  rw [mxN_iff]
  unfold gK
  constructor
  · intro h k hk hks
    have := h k hk
    rw [if_pos hks] at this
    exact this
  · intro h k hk
    by_cases q : ks s k = true
    · rw [if_pos q]; exact h k hk q
    · rw [if_neg q]; exact Nat.zero_le _
theorem gK_lt (s : Stt) (R k : Nat) : gK s R k < 4096 := by
  unfold gK
  split
  · exact lnS_lt s R k
  · decide
theorem smN_add (g h : Nat → Nat) : ∀ n, smN (fun i => g i + h i) n = smN g n + smN h n := by
  intro n
  induction n with
  | zero => rfl
  | succ n ih => simp only [smN]; rw [ih]; omega
theorem smN_zero {g : Nat → Nat} {n : Nat} (h : ∀ i, i < n → g i = 0) : smN g n = 0 := by
  induction n with
  | zero => rfl
  | succ n ih => simp only [smN]; rw [ih (fun i hi9 => h i (by omega)), h n (by omega)]
theorem sm_pos {f q : Nat} {g : Nat → Nat} (h1 : 1 ≤ f) (h6 : f ≤ 6) : ∀ k, k ≤ ns f → smN (fun i => g (so f i)) (pos f q k) = smN (fun i => g (so f i)) (bs9 f (q + 1)) + smN (fun k => if ko f k = q then g k else 0) k := by
  intro k
  induction k with
  | zero => intro _; rw [pos_0]; rfl
  | succ k ih =>
    intro hk
    have ih := ih (by omega)
    by_cases e : ko f k = q
    · rw [pos_t e]
      simp only [smN]
      have := (so_pos h1 h6 (show k < ns f by omega)).1
      rw [e] at this
      rw [ih, this, if_pos e]
      omega
    · rw [pos_f e]
      simp only [smN]
      rw [ih, if_neg e]
      omega
theorem sm_so {f : Nat} {g : Nat → Nat} (h1 : 1 ≤ f) (h6 : f ≤ 6) : smN (fun i => g (so f i)) (ns f) = smN g (ns f) := by
  have key : ∀ d m, m + d = nk f → smN (fun i => g (so f i)) (bs9 f m) = smN (fun k => if m ≤ ko f k then g k else 0) (ns f) := by
    intro d
    induction d with
    | zero =>
      intro m hm
      rw [show m = nk f by omega, bs_n h1 h6]
      exact (smN_zero (fun k hk => by have := (bd_s h1 h6 hk).2.2.1; rw [if_neg (by omega)])).symm
    | succ d ih =>
      intro m hm
      have e1 := sm_pos (f := f) (q := m) (g := g) h1 h6 (ns f) (Nat.le_refl _)
      rw [pos_ns] at e1
      rw [e1, ih (m + 1) (by omega), ← smN_add]
      refine smN_congr (fun k _ => ?_)
      rcases Nat.lt_trichotomy (ko f k) m with q | q | q
      · rw [if_neg (by omega), if_neg (by omega), if_neg (by omega)]
      · rw [if_neg (by omega), if_pos q, if_pos (by omega)]; omega
      · rw [if_pos (by omega), if_neg (by omega), if_pos (by omega), Nat.add_zero]
  have := key (nk f) 0 (by omega)
  rw [bs_0] at this
  rw [this]
  exact smN_congr (fun k _ => if_pos (Nat.zero_le _))
theorem sm_kp (s : Stt) (R : Nat) : ∀ n, smN (fun i => lnS s R ((pcs s n).2 i)) (pcs s n).1 = smN (fun i => gK s R (so (sF s) i)) n := by
  intro n
  induction n with
  | zero => rfl
  | succ n ih =>
    simp only [smN]
    cases h : ks s (so (sF s) n) with
    | true =>
      rw [pcs_t h]
      dsimp only
      simp only [smN]
      rw [uN_at, smN_congr (g := fun i => lnS s R (uN (pcs s n).2 (pcs s n).1 (so (sF s) n) i)) (h := fun i => lnS s R ((pcs s n).2 i)) (fun i hi9 => by rw [uN_ne (by omega)]), ih]
      unfold gK
      rw [if_pos h]
    | false =>
      rw [pcs_f h, ih]
      unfold gK
      rw [if_neg (show ¬ ks s (so (sF s) n) = true by rw [h]; decide)]
      rfl
theorem sum_kp {s : Stt} {R : Nat} (h1 : 1 ≤ sF s) (h6 : sF s ≤ 6) : smN (fun i => lnS s R (kp s i)) (nw s) = smN (gK s R) (ns (sF s)) := by
  rw [← sm_so h1 h6]
  exact sm_kp s R (ns (sF s))
theorem sp_167 {s : Stt} {R : Nat} {A : Mem} {Q : Int32 → Mem → Prop} (hI : MI s A) (hN : LNm s R A) (h : Q (nI (mxN (gK s R) (ns (sF s)))) A) : pm_P 167 0 [(0, .ref 0)] [] A Q := by
  have hb := MI_bd hI
  have lp : ∀ i, i ≤ ns (sF s) → pm_P 167 4 [(0, .ref 0), (1, .int (nI (mxN (gK s R) i))), (2, .int (nI i))] [] A Q := by
    refine up_ind (fun i hi9 ih => ?_)
    have hm : mxN (gK s R) i ≤ 4095 := mxN_le (fun j _ => by have := gK_lt s R j; omega)
    by_cases hlt : i < ns (sF s)
    · have ih := ih hlt
      simp only [mxN] at ih
      have hko := (bd_s hI.1.1 hI.1.2.1 hlt).2.2.1
      have hg := gK_lt s R i
      have k36 : pm_P 167 36 [(0, .ref 0), (1, .int (nI (mxN (gK s R) i))), (2, .int (nI i)), (3, .int (nI (gK s R i)))] [] A Q := by
        refine pm_iload_n (i := 3) d167_36 rfl rfl ?_
        refine pm_iload_n (i := 1) d167_37 rfl rfl ?_
        first | refine pm_icmp_leN (tgt := 45) d167_38 rfl (by omega) (by omega) (fun c_38 => ?_) (fun c_38 => ?_) | refine pm_icmp_le (tgt := 45) d167_38 rfl (fun c_38 => ?_) (fun c_38 => ?_)
        · refine pm_iload_n (i := 1) d167_45 rfl rfl ?_
          refine pm_istore_n (i := 1) (L2 := [(0, _), (1, _), (2, _), (3, _)]) d167_46 rfl (by decide) rfl ?_
          first | refine pm_iincN 1 (L2 := [(0, _), (1, _), (2, _), (3, _)]) d167_47 rfl (by decide) rfl ?_ | refine pm_iinc (L2 := [(0, _), (1, _), (2, _), (3, _)]) d167_47 rfl rfl (by decide) rfl ?_
          refine pm_goto (tgt := 4) d167_50 rfl ?_
          refine pm_pick [0, 1, 2] (L2 := [(0, _), (1, _), (2, _)]) rfl ?_
          rw [if_neg (by omega)] at ih
          exact ih
        · refine pm_iload_n (i := 3) d167_41 rfl rfl ?_
          refine pm_goto (tgt := 46) d167_42 rfl ?_
          refine pm_istore_n (i := 1) (L2 := [(0, _), (1, _), (2, _), (3, _)]) d167_46 rfl (by decide) rfl ?_
          first | refine pm_iincN 1 (L2 := [(0, _), (1, _), (2, _), (3, _)]) d167_47 rfl (by decide) rfl ?_ | refine pm_iinc (L2 := [(0, _), (1, _), (2, _), (3, _)]) d167_47 rfl rfl (by decide) rfl ?_
          refine pm_goto (tgt := 4) d167_50 rfl ?_
          refine pm_pick [0, 1, 2] (L2 := [(0, _), (1, _), (2, _)]) rfl ?_
          rw [if_pos (by omega)] at ih
          exact ih
      refine pm_iload_n (i := 2) d167_4 rfl rfl ?_
      refine pm_aload_n (i := 0) d167_5 rfl rfl ?_
      refine pm_getE d167_6 lf_11_90 rfl rfl (MI_ns hI) ?_
      first | refine pm_icmp_geN (tgt := 53) d167_9 rfl (by omega) (by omega) (fun c_9 => ?_) (fun c_9 => ?_) | refine pm_icmp_ge (tgt := 53) d167_9 rfl (fun c_9 => ?_) (fun c_9 => ?_)
      · omega
      · refine pm_aload_n (i := 0) d167_12 rfl rfl ?_
        refine pm_iload_n (i := 2) d167_13 rfl rfl ?_
        refine pm_callV (k2 := 134) (As := [_]) d167_14 lk_11_166 ok_134 rfl rfl rfl (Nat.le_of_ble_eq_true rfl) rfl rfl rfl rfl rfl ⟨Nat.le_of_ble_eq_true rfl, Nat.le_of_ble_eq_true rfl⟩ (Nat.le_of_ble_eq_true rfl) ?_
        refine sp_134 hI hlt ?_
        first | refine pm_if_eqB (tgt := 34) d167_17 rfl (fun c_17 => ?_) (fun c_17 => ?_) | refine pm_if_eqN (tgt := 34) d167_17 rfl (by omega) (fun c_17 => ?_) (fun c_17 => ?_) | refine pm_if_eq (tgt := 34) d167_17 rfl (fun c_17 => ?_) (fun c_17 => ?_)
        · refine pm_iconst (v := nI 0) d167_34 (by decide) ?_
          refine pm_istore_n (i := 3) (L2 := [(0, _), (1, _), (2, _), (3, _)]) d167_35 rfl (by decide) rfl ?_
          rw [show gK s R i = 0 by unfold gK; rw [if_neg (by rw [c_17]; decide)]] at k36
          exact k36
        · refine pm_aload_n (i := 0) d167_20 rfl rfl ?_
          refine pm_getR d167_21 lf_11_50 rfl rfl ?_
          refine pm_aload_n (i := 0) d167_24 rfl rfl ?_
          refine pm_getR d167_25 lf_11_35 rfl rfl ?_
          refine pm_iload_n (i := 2) d167_28 rfl rfl ?_
          refine pm_ialdN d167_29 rfl (by decide) (by omega) ?_
          rw [MI_ko hI hlt]
          refine pm_ialdN d167_30 rfl (by decide) (by omega) ?_
          rw [hN _ hko]
          refine pm_goto (tgt := 35) d167_31 rfl ?_
          refine pm_istore_n (i := 3) (L2 := [(0, _), (1, _), (2, _), (3, _)]) d167_35 rfl (by decide) rfl ?_
          rw [show gK s R i = lnS s R i by unfold gK; rw [if_pos c_17]] at k36
          exact k36
    · skip
      refine pm_iload_n (i := 2) d167_4 rfl rfl ?_
      refine pm_aload_n (i := 0) d167_5 rfl rfl ?_
      refine pm_getE d167_6 lf_11_90 rfl rfl (MI_ns hI) ?_
      first | refine pm_icmp_geN (tgt := 53) d167_9 rfl (by omega) (by omega) (fun c_9 => ?_) (fun c_9 => ?_) | refine pm_icmp_ge (tgt := 53) d167_9 rfl (fun c_9 => ?_) (fun c_9 => ?_)
      · refine pm_iload_n (i := 1) d167_53 rfl rfl ?_
        refine pm_iret d167_54 rfl (by first | rfl | exact nar_b _) ?_
        rw [show i = ns (sF s) by omega]
        exact h
      · omega
  refine pm_iconst (v := nI 0) d167_0 (by decide) ?_
  refine pm_istore_n (i := 1) (L2 := [(0, _), (1, _)]) d167_1 rfl (by decide) rfl ?_
  refine pm_iconst (v := nI 0) d167_2 (by decide) ?_
  refine pm_istore_n (i := 2) (L2 := [(0, _), (1, _), (2, _)]) d167_3 rfl (by decide) rfl ?_
  exact lp 0 (Nat.zero_le _)
theorem sp_168 {s : Stt} {R : Nat} {A : Mem} {Q : Int32 → Mem → Prop} (hI : MI s A) (hN : LNm s R A) (h : Q (nI (smN (gK s R) (ns (sF s)))) A) : pm_P 168 0 [(0, .ref 0)] [] A Q := by
  have hb := MI_bd hI
  have lp : ∀ i, i ≤ ns (sF s) → pm_P 168 4 [(0, .ref 0), (1, .int (nI (smN (gK s R) i))), (2, .int (nI i))] [] A Q := by
    refine up_ind (fun i hi9 ih => ?_)
    by_cases hlt : i < ns (sF s)
    · have ih := ih hlt
      simp only [smN] at ih
      have hko := (bd_s hI.1.1 hI.1.2.1 hlt).2.2.1
      refine pm_iload_n (i := 2) d168_4 rfl rfl ?_
      refine pm_aload_n (i := 0) d168_5 rfl rfl ?_
      refine pm_getE d168_6 lf_11_90 rfl rfl (MI_ns hI) ?_
      first | refine pm_icmp_geN (tgt := 44) d168_9 rfl (by omega) (by omega) (fun c_9 => ?_) (fun c_9 => ?_) | refine pm_icmp_ge (tgt := 44) d168_9 rfl (fun c_9 => ?_) (fun c_9 => ?_)
      · omega
      · refine pm_iload_n (i := 1) d168_12 rfl rfl ?_
        refine pm_aload_n (i := 0) d168_13 rfl rfl ?_
        refine pm_iload_n (i := 2) d168_14 rfl rfl ?_
        refine pm_callV (k2 := 134) (As := [_]) d168_15 lk_11_166 ok_134 rfl rfl rfl (Nat.le_of_ble_eq_true rfl) rfl rfl rfl rfl rfl ⟨Nat.le_of_ble_eq_true rfl, Nat.le_of_ble_eq_true rfl⟩ (Nat.le_of_ble_eq_true rfl) ?_
        refine sp_134 hI hlt ?_
        first | refine pm_if_eqB (tgt := 35) d168_18 rfl (fun c_18 => ?_) (fun c_18 => ?_) | refine pm_if_eqN (tgt := 35) d168_18 rfl (by omega) (fun c_18 => ?_) (fun c_18 => ?_) | refine pm_if_eq (tgt := 35) d168_18 rfl (fun c_18 => ?_) (fun c_18 => ?_)
        · refine pm_iconst (v := nI 0) d168_35 (by decide) ?_
          first | refine pm_iaddN d168_36 ?_ | refine pm_iadd d168_36 ?_
          refine pm_istore_n (i := 1) (L2 := [(0, _), (1, _), (2, _)]) d168_37 rfl (by decide) rfl ?_
          first | refine pm_iincN 1 (L2 := [(0, _), (1, _), (2, _)]) d168_38 rfl (by decide) rfl ?_ | refine pm_iinc (L2 := [(0, _), (1, _), (2, _)]) d168_38 rfl rfl (by decide) rfl ?_
          refine pm_goto (tgt := 4) d168_41 rfl ?_
          rw [show gK s R i = 0 by unfold gK; rw [if_neg (by rw [c_18]; decide)]] at ih
          exact ih
        · refine pm_aload_n (i := 0) d168_21 rfl rfl ?_
          refine pm_getR d168_22 lf_11_50 rfl rfl ?_
          refine pm_aload_n (i := 0) d168_25 rfl rfl ?_
          refine pm_getR d168_26 lf_11_35 rfl rfl ?_
          refine pm_iload_n (i := 2) d168_29 rfl rfl ?_
          refine pm_ialdN d168_30 rfl (by decide) (by omega) ?_
          rw [MI_ko hI hlt]
          refine pm_ialdN d168_31 rfl (by decide) (by omega) ?_
          rw [hN _ hko]
          refine pm_goto (tgt := 36) d168_32 rfl ?_
          first | refine pm_iaddN d168_36 ?_ | refine pm_iadd d168_36 ?_
          refine pm_istore_n (i := 1) (L2 := [(0, _), (1, _), (2, _)]) d168_37 rfl (by decide) rfl ?_
          first | refine pm_iincN 1 (L2 := [(0, _), (1, _), (2, _)]) d168_38 rfl (by decide) rfl ?_ | refine pm_iinc (L2 := [(0, _), (1, _), (2, _)]) d168_38 rfl rfl (by decide) rfl ?_
          refine pm_goto (tgt := 4) d168_41 rfl ?_
          rw [show gK s R i = lnS s R i by unfold gK; rw [if_pos c_18]] at ih
          exact ih
    · skip
      refine pm_iload_n (i := 2) d168_4 rfl rfl ?_
      refine pm_aload_n (i := 0) d168_5 rfl rfl ?_
      refine pm_getE d168_6 lf_11_90 rfl rfl (MI_ns hI) ?_
      first | refine pm_icmp_geN (tgt := 44) d168_9 rfl (by omega) (by omega) (fun c_9 => ?_) (fun c_9 => ?_) | refine pm_icmp_ge (tgt := 44) d168_9 rfl (fun c_9 => ?_) (fun c_9 => ?_)
      · refine pm_iload_n (i := 1) d168_44 rfl rfl ?_
        refine pm_iret d168_45 rfl (by first | rfl | exact nar_b _) ?_
        rw [show i = ns (sF s) by omega]
        exact h
      · omega
  refine pm_iconst (v := nI 0) d168_0 (by decide) ?_
  refine pm_istore_n (i := 1) (L2 := [(0, _), (1, _)]) d168_1 rfl (by decide) rfl ?_
  refine pm_iconst (v := nI 0) d168_2 (by decide) ?_
  refine pm_istore_n (i := 2) (L2 := [(0, _), (1, _), (2, _)]) d168_3 rfl (by decide) rfl ?_
  exact lp 0 (Nat.zero_le _)
def SX (x : FS) (A : Mem) : Prop := A 0 22 = nI x.1 ∧ ∀ b, b < x.1 → A 16 b = nI (x.2.1 b) ∧ A 17 b = nI (x.2.2.1 b)
theorem sub_lt {x y : Nat} (hx9 : x < 2 ^ 30) (hy9 : y < 2 ^ 30) (h : x < y) : ¬ 0 ≤ nI x - nI y := by
  rw [Int32.le_iff_toInt_le, pk_sub_toInt hx9 hy9, Int32.toInt_zero]
  omega
theorem sp_169 {s : Stt} {R k : Nat} {x : FS} {A : Mem} {Q : Int32 → Mem → Prop} (hI : MI s A) (hN : LNm s R A) (hk : k < ns (sF s)) (hx9 : SX x A) (hx1 : x.1 < 432) (hxl : ∀ b, b < x.1 → x.2.1 b ≤ 20000 ∧ x.2.2.1 b < 1000) (hfit : lnS s R k ≤ sB s)
    (h : ∀ A2 : Mem, (∀ c, c ≠ 0 → c ≠ 16 → c ≠ 17 → c ≠ 18 → A2 c = A c) → (∀ j, j ≠ 22 → A2 0 j = A 0 j) → SX (sawS (sB s) (sW s) (lnS s R k) k x) A2 → A2 18 k = nI ((sawS (sB s) (sW s) (lnS s R k) k x).2.2.2 k) → (∀ j, j ≠ k → A2 18 j = A 18 j) → Q 0 A2) : pm_P 169 0 [(0, .ref 0), (1, .int (nI k))] [] A Q := by
  have hb := MI_bd hI
  obtain ⟨F1, F6, R1, R2, B1, B2, W1, -⟩ := hI.1
  have hko := (bd_s F1 F6 hk).2.2.1
  have e3 : A 1 3 = nI (sB s) := hI.2.2.2.2.2.1
  have e4 : A 1 4 = nI (sW s) := hI.2.2.2.2.2.2.1
  have hl := lnS_lt s R k
  have k75 : ∀ (A2 : Mem) (F V pv : Nat), F < 432 → V ≤ 20000 → lnS s R k ≤ V → pv < 1000 → A2 16 F = nI V → A2 17 F = nI pv → A2 1 4 = nI (sW s) → Q 0 (mset (mset (mset A2 16 F (nI (V - lnS s R k - sW s))) 17 F (nI (pv + 1))) 18 k (nI F)) → pm_P 169 75 [(0, .ref 0), (1, .int (nI k)), (2, .int (nI (lnS s R k))), (3, .int (nI F))] [] A2 Q := by
    intro A2 F V pv hF hV hlV hpv q16 q17 q4 hq
    by_cases hw : sW s ≤ V - lnS s R k
    · skip
      refine pm_aload_n (i := 0) d169_75 rfl rfl ?_
      refine pm_getR d169_76 lf_11_56 rfl rfl ?_
      refine pm_iload_n (i := 3) d169_79 rfl rfl ?_
      refine pm_ialdN d169_80 rfl (by decide) (by omega) ?_
      rw [q16]
      refine pm_iload_n (i := 2) d169_81 rfl rfl ?_
      first | refine pm_isubN d169_82 (by omega) ?_ | refine pm_isub d169_82 ?_
      refine pm_aload_n (i := 0) d169_83 rfl rfl ?_
      refine pm_getR d169_84 lf_11_7 rfl rfl ?_
      refine pm_iconst (v := nI 4) d169_87 (by decide) ?_
      refine pm_ialdN d169_88 rfl (by decide) (by omega) ?_
      rw [q4]
      first | refine pm_isubN d169_89 (by omega) ?_ | refine pm_isub d169_89 ?_
      refine pm_istore (L2 := [(0, _), (1, _), (2, _), (3, _), (4, _)]) d169_90 (by decide) rfl ?_
      refine pm_aload_n (i := 0) d169_92 rfl rfl ?_
      refine pm_getR d169_93 lf_11_56 rfl rfl ?_
      refine pm_iload_n (i := 3) d169_96 rfl rfl ?_
      refine pm_iload d169_97 rfl ?_
      refine pm_if_ge (tgt := 106) d169_99 rfl (fun c_99 => ?_) (fun c_99 => ?_)
      · refine pm_iload d169_106 rfl ?_
        refine pm_iastN d169_108 rfl (by decide) (by omega) ?_
        refine pm_aload_n (i := 0) d169_109 rfl rfl ?_
        refine pm_getR d169_110 lf_11_59 rfl rfl ?_
        refine pm_iload_n (i := 3) d169_113 rfl rfl ?_
        refine pm_dup2 d169_114 rfl rfl ?_
        refine pm_ialdN d169_115 rfl (by decide) (by omega) ?_
        rw [mset_other (by decide), q17]
        refine pm_iconst (v := nI 1) d169_116 (by decide) ?_
        first | refine pm_iaddN d169_117 ?_ | refine pm_iadd d169_117 ?_
        refine pm_iastN d169_118 rfl (by decide) (by omega) ?_
        refine pm_aload_n (i := 0) d169_119 rfl rfl ?_
        refine pm_getR d169_120 lf_11_62 rfl rfl ?_
        refine pm_iload_n (i := 1) d169_123 rfl rfl ?_
        refine pm_iload_n (i := 3) d169_124 rfl rfl ?_
        refine pm_iastN d169_125 rfl (by decide) (by omega) ?_
        refine pm_vret d169_126 rfl ?_
        exact hq
      · exact absurd (nI_pos' (by omega)) c_99
    · skip
      refine pm_aload_n (i := 0) d169_75 rfl rfl ?_
      refine pm_getR d169_76 lf_11_56 rfl rfl ?_
      refine pm_iload_n (i := 3) d169_79 rfl rfl ?_
      refine pm_ialdN d169_80 rfl (by decide) (by omega) ?_
      rw [q16]
      refine pm_iload_n (i := 2) d169_81 rfl rfl ?_
      first | refine pm_isubN d169_82 (by omega) ?_ | refine pm_isub d169_82 ?_
      refine pm_aload_n (i := 0) d169_83 rfl rfl ?_
      refine pm_getR d169_84 lf_11_7 rfl rfl ?_
      refine pm_iconst (v := nI 4) d169_87 (by decide) ?_
      refine pm_ialdN d169_88 rfl (by decide) (by omega) ?_
      rw [q4]
      refine pm_isub d169_89 ?_
      refine pm_istore (L2 := [(0, _), (1, _), (2, _), (3, _), (4, _)]) d169_90 (by decide) rfl ?_
      refine pm_aload_n (i := 0) d169_92 rfl rfl ?_
      refine pm_getR d169_93 lf_11_56 rfl rfl ?_
      refine pm_iload_n (i := 3) d169_96 rfl rfl ?_
      refine pm_iload d169_97 rfl ?_
      refine pm_if_ge (tgt := 106) d169_99 rfl (fun c_99 => ?_) (fun c_99 => ?_)
      · exact absurd c_99 (sub_lt (by omega) (by omega) (by omega))
      · refine pm_iconst (v := nI 0) d169_102 (by decide) ?_
        refine pm_goto (tgt := 108) d169_103 rfl ?_
        refine pm_iastN d169_108 rfl (by decide) (by omega) ?_
        refine pm_aload_n (i := 0) d169_109 rfl rfl ?_
        refine pm_getR d169_110 lf_11_59 rfl rfl ?_
        refine pm_iload_n (i := 3) d169_113 rfl rfl ?_
        refine pm_dup2 d169_114 rfl rfl ?_
        refine pm_ialdN d169_115 rfl (by decide) (by omega) ?_
        rw [mset_other (by decide), q17]
        refine pm_iconst (v := nI 1) d169_116 (by decide) ?_
        first | refine pm_iaddN d169_117 ?_ | refine pm_iadd d169_117 ?_
        refine pm_iastN d169_118 rfl (by decide) (by omega) ?_
        refine pm_aload_n (i := 0) d169_119 rfl rfl ?_
        refine pm_getR d169_120 lf_11_62 rfl rfl ?_
        refine pm_iload_n (i := 1) d169_123 rfl rfl ?_
        refine pm_iload_n (i := 3) d169_124 rfl rfl ?_
        refine pm_iastN d169_125 rfl (by decide) (by omega) ?_
        refine pm_vret d169_126 rfl ?_
        rw [show V - lnS s R k - sW s = 0 by omega] at hq
        exact hq
  have k38 : pm_P 169 38 [(0, .ref 0), (1, .int (nI k)), (2, .int (nI (lnS s R k))), (3, .int (nI (ffit x.2.1 (lnS s R k) x.1)))] [] A Q := by
    have hle := ffit_le x.2.1 (lnS s R k) x.1
    by_cases hf : ffit x.2.1 (lnS s R k) x.1 = x.1
    · have es : sawS (sB s) (sW s) (lnS s R k) k x = (x.1 + 1, uN x.2.1 x.1 (sB s - lnS s R k - sW s), uN x.2.2.1 x.1 1, uN x.2.2.2 k x.1) := if_pos hf
      rw [es] at h
      dsimp only at h
      rw [hf]
      refine pm_iload_n (i := 3) d169_38 rfl rfl ?_
      refine pm_aload_n (i := 0) d169_39 rfl rfl ?_
      refine pm_getE (v := nI x.1) d169_40 lf_11_154 rfl rfl (by simp [mset_get, hx9.1]) ?_
      first | refine pm_icmp_neN (tgt := 75) d169_43 rfl (by omega) (by omega) (fun c_43 => ?_) (fun c_43 => ?_) | refine pm_icmp_ne (tgt := 75) d169_43 rfl (fun c_43 => ?_) (fun c_43 => ?_)
      · omega
      · refine pm_aload_n (i := 0) d169_46 rfl rfl ?_
        refine pm_getR d169_47 lf_11_56 rfl rfl ?_
        refine pm_iload_n (i := 3) d169_50 rfl rfl ?_
        refine pm_aload_n (i := 0) d169_51 rfl rfl ?_
        refine pm_getR d169_52 lf_11_7 rfl rfl ?_
        refine pm_iconst (v := nI 3) d169_55 (by decide) ?_
        refine pm_ialdN d169_56 rfl (by decide) (by omega) ?_
        rw [e3]
        refine pm_iastN d169_57 rfl (by decide) (by omega) ?_
        refine pm_aload_n (i := 0) d169_58 rfl rfl ?_
        refine pm_getR d169_59 lf_11_59 rfl rfl ?_
        refine pm_iload_n (i := 3) d169_62 rfl rfl ?_
        refine pm_iconst (v := nI 0) d169_63 (by decide) ?_
        refine pm_iastN d169_64 rfl (by decide) (by omega) ?_
        refine pm_aload_n (i := 0) d169_65 rfl rfl ?_
        refine pm_dup d169_66 rfl ?_
        refine pm_getE (v := nI x.1) d169_67 lf_11_154 rfl rfl (by simp [mset_get, hx9.1]) ?_
        refine pm_iconst (v := nI 1) d169_70 (by decide) ?_
        first | refine pm_iaddN d169_71 ?_ | refine pm_iadd d169_71 ?_
        refine pm_putI d169_72 lp_11_154 rfl rfl ?_
        refine k75 _ x.1 (sB s) 0 hx1 B2 hfit (by decide) (by simp [mset_get]) (by simp [mset_get]) (by rw [mset_other (by decide), mset_other (by decide), mset_other (by decide)]; exact e4) ?_
        refine h _ (fun c c1 c2 c3 c4 => ?_) (fun j hj => ?_) ⟨?_, fun b hb9 => ?_⟩ ?_ (fun j hj => ?_)
        · rw [mset_other c4, mset_other c3, mset_other c2, mset_other c1, mset_other c3, mset_other c2]
        · rw [mset_other (by decide), mset_other (by decide), mset_other (by decide), mset_ne hj, mset_other (by decide), mset_other (by decide)]
        · rw [mset_other (by decide), mset_other (by decide), mset_other (by decide), mset_at]
        · dsimp only at hb9 ⊢
          by_cases e : b = x.1
          · rw [e, uN_at, uN_at]
            simp [mset_get]
          · have := hx9.2 b (by omega)
            rw [uN_ne e, uN_ne e]
            simp [mset_get, e, this]
        · rw [mset_at, uN_at]
        · rw [mset_ne hj, mset_other (by decide), mset_other (by decide), mset_other (by decide), mset_other (by decide), mset_other (by decide)]
    · obtain ⟨f1, f2⟩ := ffit_fits hf
      have es : sawS (sB s) (sW s) (lnS s R k) k x = (x.1, uN x.2.1 (ffit x.2.1 (lnS s R k) x.1) (x.2.1 (ffit x.2.1 (lnS s R k) x.1) - lnS s R k - sW s), uN x.2.2.1 (ffit x.2.1 (lnS s R k) x.1) (x.2.2.1 (ffit x.2.1 (lnS s R k) x.1) + 1), uN x.2.2.2 k (ffit x.2.1 (lnS s R k) x.1)) := if_neg hf
      rw [es] at h
      dsimp only at h
      generalize ffit x.2.1 (lnS s R k) x.1 = F at *
      have hxF := hxl F f1
      refine pm_iload_n (i := 3) d169_38 rfl rfl ?_
      refine pm_aload_n (i := 0) d169_39 rfl rfl ?_
      refine pm_getE d169_40 lf_11_154 rfl rfl (hx9.1) ?_
      first | refine pm_icmp_neN (tgt := 75) d169_43 rfl (by omega) (by omega) (fun c_43 => ?_) (fun c_43 => ?_) | refine pm_icmp_ne (tgt := 75) d169_43 rfl (fun c_43 => ?_) (fun c_43 => ?_)
      · refine k75 A F _ _ (by omega) hxF.1 f2 hxF.2 (hx9.2 F f1).1 (hx9.2 F f1).2 e4 ?_
        refine h _ (fun c c1 c2 c3 c4 => ?_) (fun j hj => ?_) ⟨?_, fun b hb9 => ?_⟩ ?_ (fun j hj => ?_)
        · rw [mset_other c4, mset_other c3, mset_other c2]
        · rw [mset_other (by decide), mset_other (by decide), mset_other (by decide)]
        · rw [mset_other (by decide), mset_other (by decide), mset_other (by decide)]; exact hx9.1
        · dsimp only at hb9 ⊢
          by_cases e : b = F
          · rw [e, uN_at, uN_at]
            simp [mset_get]
          · have := hx9.2 b hb9
            rw [uN_ne e, uN_ne e]
            simp [mset_get, e, this]
        · rw [mset_at, uN_at]
        · rw [mset_ne hj, mset_other (by decide), mset_other (by decide)]
      · omega
  have k14 : ∀ i, i ≤ x.1 → (∀ b, b < i → x.2.1 b < lnS s R k) → pm_P 169 14 [(0, .ref 0), (1, .int (nI k)), (2, .int (nI (lnS s R k))), (3, .int (nI i))] [] A Q := by
    refine up_ind (fun i hi9 ih hbl => ?_)
    by_cases hlt : i < x.1
    · have hxi := hxl i hlt
      refine pm_iload_n (i := 3) d169_14 rfl rfl ?_
      refine pm_aload_n (i := 0) d169_15 rfl rfl ?_
      refine pm_getE d169_16 lf_11_154 rfl rfl (hx9.1) ?_
      first | refine pm_icmp_geN (tgt := 38) d169_19 rfl (by omega) (by omega) (fun c_19 => ?_) (fun c_19 => ?_) | refine pm_icmp_ge (tgt := 38) d169_19 rfl (fun c_19 => ?_) (fun c_19 => ?_)
      · omega
      · refine pm_aload_n (i := 0) d169_22 rfl rfl ?_
        refine pm_getR d169_23 lf_11_56 rfl rfl ?_
        refine pm_iload_n (i := 3) d169_26 rfl rfl ?_
        refine pm_ialdN d169_27 rfl (by decide) (by omega) ?_
        rw [(hx9.2 i hlt).1]
        refine pm_iload_n (i := 2) d169_28 rfl rfl ?_
        first | refine pm_icmp_geN (tgt := 38) d169_29 rfl (by omega) (by omega) (fun c_29 => ?_) (fun c_29 => ?_) | refine pm_icmp_ge (tgt := 38) d169_29 rfl (fun c_29 => ?_) (fun c_29 => ?_)
        · rw [← ffit_here hlt hbl c_29]
          exact k38
        · first | refine pm_iincN 1 (L2 := [(0, _), (1, _), (2, _), (3, _)]) d169_32 rfl (by decide) rfl ?_ | refine pm_iinc (L2 := [(0, _), (1, _), (2, _), (3, _)]) d169_32 rfl rfl (by decide) rfl ?_
          refine pm_goto (tgt := 14) d169_35 rfl ?_
          exact ih hlt (fun b hb9 => by
            rcases Nat.lt_or_ge b i with q | q
            · exact hbl b q
            · rw [show b = i by omega]; exact c_29)
    · have ei : i = x.1 := by omega
      refine pm_iload_n (i := 3) d169_14 rfl rfl ?_
      refine pm_aload_n (i := 0) d169_15 rfl rfl ?_
      refine pm_getE d169_16 lf_11_154 rfl rfl (hx9.1) ?_
      first | refine pm_icmp_geN (tgt := 38) d169_19 rfl (by omega) (by omega) (fun c_19 => ?_) (fun c_19 => ?_) | refine pm_icmp_ge (tgt := 38) d169_19 rfl (fun c_19 => ?_) (fun c_19 => ?_)
      · rw [ei] at hbl ⊢
        have e : ffit x.2.1 (lnS s R k) x.1 = x.1 := ffit_none hbl
        rw [e] at k38
        exact k38
      · omega
  refine pm_aload_n (i := 0) d169_0 rfl rfl ?_
  refine pm_getR d169_1 lf_11_50 rfl rfl ?_
  refine pm_aload_n (i := 0) d169_4 rfl rfl ?_
  refine pm_getR d169_5 lf_11_35 rfl rfl ?_
  refine pm_iload_n (i := 1) d169_8 rfl rfl ?_
  refine pm_ialdN d169_9 rfl (by decide) (by omega) ?_
  rw [MI_ko hI hk]
  refine pm_ialdN d169_10 rfl (by decide) (by omega) ?_
  rw [hN _ hko, show nI (len (sF s) (ko (sF s) k) R) = nI (lnS s R k) from rfl]
  refine pm_istore_n (i := 2) (L2 := [(0, _), (1, _), (2, _)]) d169_11 rfl (by decide) rfl ?_
  refine pm_iconst (v := nI 0) d169_12 (by decide) ?_
  refine pm_istore_n (i := 3) (L2 := [(0, _), (1, _), (2, _), (3, _)]) d169_13 rfl (by decide) rfl ?_
  exact k14 0 (Nat.zero_le _) (fun b hb9 => absurd hb9 (Nat.not_lt_zero b))
/-- what the reference has sawn -/
def SDm (s : Stt) (R : Nat) (A : Mem) : Prop := SX (swn s R (sB s) (sW s)) A ∧ ∀ j, j < nw s → A 18 (kp s j) = nI ((swn s R (sB s) (sW s)).2.2.2 (kp s j))
theorem sawS_bar {B S need k j : Nat} {x : FS} (h : ¬ j = k) : (sawS B S need k x).2.2.2 j = x.2.2.2 j := by
  unfold sawS
  split
  · exact uN_ne h
  · exact uN_ne h
theorem sp_170 {s : Stt} {R m : Nat} {A : Mem} {Q : Int32 → Mem → Prop} (hI : MI s A) (hN : LNm s R A) (hR : 10 ≤ R) (hR2 : R ≤ 2000) (hm : m ≤ 1000) (hf : fits s R (sB s))
    (h : ∀ A2 : Mem, (∀ c, c ≠ 0 → c ≠ 16 → c ≠ 17 → c ≠ 18 → A2 c = A c) → (∀ j, j ≠ 22 → A2 0 j = A 0 j) → ((swn s R (sB s) (sW s)).1 ≤ m → SDm s R A2) → (m < (swn s R (sB s) (sW s)).1 → ∃ b, m < b ∧ b < 2 ^ 31 ∧ A2 0 22 = nI b) → Q 0 A2) : pm_P 170 0 [(0, .ref 0), (1, .int (nI m))] [] A Q := by
  have hb := MI_bd hI
  obtain ⟨F1, F6, R1, R3, B1, B2, W1, -⟩ := hI.1
  have hl9 := fits_ok F1 F6 hR hR2 hf
  have hnw := nw_le s
  have dead : m < (swn s R (sB s) (sW s)).1 → ∀ i, i ≤ nk (sF s) → ∀ A1 : Mem, (∀ c, c ≠ 0 → c ≠ 16 → c ≠ 17 → c ≠ 18 → A1 c = A c) → (∀ j, j ≠ 22 → A1 0 j = A 0 j) → (∃ b, m < b ∧ b < 2 ^ 31 ∧ A1 0 22 = nI b) → pm_P 170 12 [(0, .ref 0), (1, .int (nI m)), (2, .int (kv9 i))] [] A1 Q := by
    intro hd i
    induction i with
    | zero =>
      intro hi9 A1 g1 g0 g2
      refine pm_iload_n (i := 2) d170_12 rfl rfl ?_
      refine pm_if_lt (tgt := 69) d170_13 rfl (fun c_13 => ?_) (fun c_13 => ?_)
      · refine pm_vret d170_69 rfl ?_
        exact h A1 g1 g0 (fun q => by omega) (fun _ => g2)
      · exact absurd (by decide) c_13
    | succ i ih =>
      intro hi9 A1 g1 g0 g2
      have hI1 : MI s A1 := MI_keep hI (fun j _ _ => g0 j (by omega)) (fun c _ _ => g1 c (by omega) (by omega) (by omega) (by omega)) (g1 1 (by decide) (by decide) (by decide) (by decide))
      obtain ⟨b, b1, b2, b3⟩ := g2
      refine pm_iload_n (i := 2) d170_12 rfl rfl ?_
      rw [show kv9 (i + 1) = nI i from rfl]
      refine pm_if_lt (tgt := 69) d170_13 rfl (fun c_13 => ?_) (fun c_13 => ?_)
      · exact absurd c_13 (nI_pos (by omega))
      · refine pm_iconst (v := nI 0) d170_16 (by decide) ?_
        refine pm_istore_n (i := 3) (L2 := [(0, _), (1, _), (2, _), (3, _)]) d170_17 rfl (by decide) rfl ?_
        refine pm_iload_n (i := 3) d170_18 rfl rfl ?_
        refine pm_aload_n (i := 0) d170_19 rfl rfl ?_
        refine pm_getE d170_20 lf_11_90 rfl rfl (MI_ns hI1) ?_
        first | refine pm_icmp_geN (tgt := 63) d170_23 rfl (by omega) (by omega) (fun c_23 => ?_) (fun c_23 => ?_) | refine pm_icmp_ge (tgt := 63) d170_23 rfl (fun c_23 => ?_) (fun c_23 => ?_)
        · omega
        · refine pm_aload_n (i := 0) d170_26 rfl rfl ?_
          refine pm_getE d170_27 lf_11_154 rfl rfl (b3) ?_
          refine pm_iload_n (i := 1) d170_30 rfl rfl ?_
          first | refine pm_icmp_gtN (tgt := 63) d170_31 rfl (by omega) (by omega) (fun c_31 => ?_) (fun c_31 => ?_) | refine pm_icmp_gt (tgt := 63) d170_31 rfl (fun c_31 => ?_) (fun c_31 => ?_)
          · refine pm_iinc (L2 := [(0, _), (1, _), (2, _), (3, _)]) (v := kv9 i) d170_63 rfl (kv_dec (i + 1) (by omega) (by omega)) (by decide) rfl ?_
            refine pm_goto (tgt := 12) d170_66 rfl ?_
            refine pm_pick [0, 1, 2] (L2 := [(0, _), (1, _), (2, _)]) rfl ?_
            exact ih (by omega) A1 g1 g0 ⟨b, b1, b2, b3⟩
          · omega
  have live : ∀ i, i ≤ nk (sF s) → ∀ A1 : Mem, (∀ c, c ≠ 0 → c ≠ 16 → c ≠ 17 → c ≠ 18 → A1 c = A c) → (∀ j, j ≠ 22 → A1 0 j = A 0 j) → SX (sawP (sB s) (sW s) (lnS s R) (kp s) (pcs s (bs9 (sF s) i)).1) A1 → (∀ j, j < (pcs s (bs9 (sF s) i)).1 → A1 18 (kp s j) = nI ((sawP (sB s) (sW s) (lnS s R) (kp s) (pcs s (bs9 (sF s) i)).1).2.2.2 (kp s j))) → pm_P 170 12 [(0, .ref 0), (1, .int (nI m)), (2, .int (kv9 i))] [] A1 Q := by
    intro i
    induction i with
    | zero =>
      intro hi9 A1 g1 g0 g2 g3
      rw [bs_0] at g2 g3
      have e0 := g2.1
      have hsw := swn_le (S := sW s) F1 F6 hR hR2 (show 1 ≤ sB s by omega) hf
      refine pm_iload_n (i := 2) d170_12 rfl rfl ?_
      refine pm_if_lt (tgt := 69) d170_13 rfl (fun c_13 => ?_) (fun c_13 => ?_)
      · refine pm_vret d170_69 rfl ?_
        exact h A1 g1 g0 (fun _ => ⟨g2, g3⟩) (fun q => ⟨_, q, by omega, e0⟩)
      · exact absurd (by decide) c_13
    | succ i ih =>
      intro hi9 A1 g1 g0 g2 g3
      have inner : ∀ k, k ≤ ns (sF s) → ∀ A1 : Mem, (∀ c, c ≠ 0 → c ≠ 16 → c ≠ 17 → c ≠ 18 → A1 c = A c) → (∀ j, j ≠ 22 → A1 0 j = A 0 j) → SX (sawP (sB s) (sW s) (lnS s R) (kp s) (pcs s (pos (sF s) i k)).1) A1 → (∀ j, j < (pcs s (pos (sF s) i k)).1 → A1 18 (kp s j) = nI ((sawP (sB s) (sW s) (lnS s R) (kp s) (pcs s (pos (sF s) i k)).1).2.2.2 (kp s j))) → pm_P 170 18 [(0, .ref 0), (1, .int (nI m)), (2, .int (nI i)), (3, .int (nI k))] [] A1 Q := by
        refine up_ind (fun k hk ih2 A1 g1 g0 g2 g3 => ?_)
        have hI1 : MI s A1 := MI_keep hI (fun j _ _ => g0 j (by omega)) (fun c _ _ => g1 c (by omega) (by omega) (by omega) (by omega)) (g1 1 (by decide) (by decide) (by decide) (by decide))
        have hN1 : LNm s R A1 := LNm_keep hN (g1 14 (by decide) (by decide) (by decide) (by decide))
        by_cases hlt : k < ns (sF s)
        · obtain ⟨z1, z2⟩ := so_pos F1 F6 hlt
          have hko := (bd_s F1 F6 hlt).2.2.1
          have hw9 : (pcs s (pos (sF s) i k)).1 ≤ nw s := by
            by_cases hp : pos (sF s) i k ≤ ns (sF s)
            · have := (pcs_mono s (pos (sF s) i k) (ns (sF s) - pos (sF s) i k)).1
              rwa [show pos (sF s) i k + (ns (sF s) - pos (sF s) i k) = ns (sF s) by omega] at this
            · exfalso
              have h1 := pos_ns (sF s) i
              have h2 : pos (sF s) i k ≤ pos (sF s) i (ns (sF s)) := by
                rw [pos_bs, pos_bs]
                exact Nat.add_le_add_left (cnt_mono hk) _
              have h3 : bs9 (sF s) i ≤ ns (sF s) := cnt_le _ _
              omega
          have hinv := saw_inv (S := sW s) (show 1 ≤ sB s by omega) hl9 _ hw9
          have hmo := saw_mono (B := sB s) (S := sW s) (l := lnS s R) (P := kp s) (pcs s (pos (sF s) i k)).1 (nw s - (pcs s (pos (sF s) i k)).1)
          rw [show (pcs s (pos (sF s) i k)).1 + (nw s - (pcs s (pos (sF s) i k)).1) = nw s by omega] at hmo
          have e22 := g2.1
          refine pm_iload_n (i := 3) d170_18 rfl rfl ?_
          refine pm_aload_n (i := 0) d170_19 rfl rfl ?_
          refine pm_getE d170_20 lf_11_90 rfl rfl (MI_ns hI1) ?_
          first | refine pm_icmp_geN (tgt := 63) d170_23 rfl (by omega) (by omega) (fun c_23 => ?_) (fun c_23 => ?_) | refine pm_icmp_ge (tgt := 63) d170_23 rfl (fun c_23 => ?_) (fun c_23 => ?_)
          · omega
          · refine pm_aload_n (i := 0) d170_26 rfl rfl ?_
            refine pm_getE d170_27 lf_11_154 rfl rfl (e22) ?_
            refine pm_iload_n (i := 1) d170_30 rfl rfl ?_
            first | refine pm_icmp_gtN (tgt := 63) d170_31 rfl (by omega) (by omega) (fun c_31 => ?_) (fun c_31 => ?_) | refine pm_icmp_gt (tgt := 63) d170_31 rfl (fun c_31 => ?_) (fun c_31 => ?_)
            · refine pm_iinc (L2 := [(0, _), (1, _), (2, _), (3, _)]) (v := kv9 i) d170_63 rfl (kv_dec (i + 1) (by omega) (by omega)) (by decide) rfl ?_
              refine pm_goto (tgt := 12) d170_66 rfl ?_
              refine pm_pick [0, 1, 2] (L2 := [(0, _), (1, _), (2, _)]) rfl ?_
              exact dead (by unfold swn; omega) i (by omega) A1 g1 g0 ⟨_, c_31, by omega, e22⟩
            · refine pm_aload_n (i := 0) d170_34 rfl rfl ?_
              refine pm_getR d170_35 lf_11_35 rfl rfl ?_
              refine pm_iload_n (i := 3) d170_38 rfl rfl ?_
              refine pm_ialdN d170_39 rfl (by decide) (by omega) ?_
              rw [MI_ko hI1 hlt]
              refine pm_iload_n (i := 2) d170_40 rfl rfl ?_
              first | refine pm_icmp_neN (tgt := 57) d170_41 rfl (by omega) (by omega) (fun c_41 => ?_) (fun c_41 => ?_) | refine pm_icmp_ne (tgt := 57) d170_41 rfl (fun c_41 => ?_) (fun c_41 => ?_)
              · first | refine pm_iincN 1 (L2 := [(0, _), (1, _), (2, _), (3, _)]) d170_57 rfl (by decide) rfl ?_ | refine pm_iinc (L2 := [(0, _), (1, _), (2, _), (3, _)]) d170_57 rfl rfl (by decide) rfl ?_
                refine pm_goto (tgt := 18) d170_60 rfl ?_
                rw [← pos_f c_41] at g2 g3
                exact ih2 hlt A1 g1 g0 g2 g3
              · rw [c_41] at z1 z2 
                refine pm_aload_n (i := 0) d170_44 rfl rfl ?_
                refine pm_iload_n (i := 3) d170_45 rfl rfl ?_
                refine pm_callV (k2 := 134) (As := [_]) d170_46 lk_11_166 ok_134 rfl rfl rfl (Nat.le_of_ble_eq_true rfl) rfl rfl rfl rfl rfl ⟨Nat.le_of_ble_eq_true rfl, Nat.le_of_ble_eq_true rfl⟩ (Nat.le_of_ble_eq_true rfl) ?_
                refine sp_134 hI1 hlt ?_
                first | refine pm_if_eqB (tgt := 57) d170_49 rfl (fun c_49 => ?_) (fun c_49 => ?_) | refine pm_if_eqN (tgt := 57) d170_49 rfl (by omega) (fun c_49 => ?_) (fun c_49 => ?_) | refine pm_if_eq (tgt := 57) d170_49 rfl (fun c_49 => ?_) (fun c_49 => ?_)
                · first | refine pm_iincN 1 (L2 := [(0, _), (1, _), (2, _), (3, _)]) d170_57 rfl (by decide) rfl ?_ | refine pm_iinc (L2 := [(0, _), (1, _), (2, _), (3, _)]) d170_57 rfl rfl (by decide) rfl ?_
                  refine pm_goto (tgt := 18) d170_60 rfl ?_
                  have e : pcs s (pos (sF s) i (k + 1)) = pcs s (pos (sF s) i k) := by
                    rw [pos_t c_41]
                    exact pcs_f (by rw [z1]; exact c_49)
                  rw [← e] at g2 g3
                  exact ih2 hlt A1 g1 g0 g2 g3
                · refine pm_aload_n (i := 0) d170_52 rfl rfl ?_
                  refine pm_iload_n (i := 3) d170_53 rfl rfl ?_
                  refine pm_callVv (k2 := 169) (As := [_]) d170_54 lk_11_217 ok_169 rfl rfl rfl (Nat.le_of_ble_eq_true rfl) rfl rfl rfl rfl rfl ⟨Nat.le_of_ble_eq_true rfl, Nat.le_of_ble_eq_true rfl⟩ (Nat.le_of_ble_eq_true rfl) ?_
                  have hks : ks s (so (sF s) (pos (sF s) i k)) = true := by rw [z1]; exact c_49
                  obtain ⟨kh1, kh2⟩ := kp_here z2 hks
                  rw [z1] at kh2
                  have hstep : sawP (sB s) (sW s) (lnS s R) (kp s) ((pcs s (pos (sF s) i k)).1 + 1) = sawS (sB s) (sW s) (lnS s R k) k (sawP (sB s) (sW s) (lnS s R) (kp s) (pcs s (pos (sF s) i k)).1) := by
                    show sawS _ _ (lnS s R (kp s _)) (kp s _) _ = _
                    rw [kh2]
                  refine sp_169 hI1 hN1 hlt g2 (by omega) (fun b hb9 => by have := hinv.2.1 b hb9; omega) (hf k hlt c_49) (fun A2 f1 f2 f3 f4 f5 => ?_)
                  first | refine pm_iincN 1 (L2 := [(0, _), (1, _), (2, _), (3, _)]) d170_57 rfl (by decide) rfl ?_ | refine pm_iinc (L2 := [(0, _), (1, _), (2, _), (3, _)]) d170_57 rfl rfl (by decide) rfl ?_
                  refine pm_goto (tgt := 18) d170_60 rfl ?_
                  have e : (pcs s (pos (sF s) i (k + 1))).1 = (pcs s (pos (sF s) i k)).1 + 1 := by
                    rw [pos_t c_41, pcs_t hks]
                  refine ih2 hlt A2 (fun c c1 c2 c3 c4 => by rw [f1 c c1 c2 c3 c4]; exact g1 c c1 c2 c3 c4) (fun j hj => by rw [f2 j hj]; exact g0 j hj) ?_ (fun j hj => ?_)
                  · rw [e, hstep]; exact f3
                  · rw [e] at hj ⊢
                    rw [hstep]
                    by_cases ej : kp s j = k
                    · rw [ej]; exact f4
                    · rw [f5 _ ej, sawS_bar ej]
                      refine g3 j ?_
                      rcases Nat.lt_or_ge j (pcs s (pos (sF s) i k)).1 with q | q
                      · exact q
                      · exact absurd (by rw [show j = (pcs s (pos (sF s) i k)).1 by omega]; exact kh2) ej
        · have ek : k = ns (sF s) := by omega
          refine pm_iload_n (i := 3) d170_18 rfl rfl ?_
          refine pm_aload_n (i := 0) d170_19 rfl rfl ?_
          refine pm_getE d170_20 lf_11_90 rfl rfl (MI_ns hI1) ?_
          first | refine pm_icmp_geN (tgt := 63) d170_23 rfl (by omega) (by omega) (fun c_23 => ?_) (fun c_23 => ?_) | refine pm_icmp_ge (tgt := 63) d170_23 rfl (fun c_23 => ?_) (fun c_23 => ?_)
          · refine pm_iinc (L2 := [(0, _), (1, _), (2, _), (3, _)]) (v := kv9 i) d170_63 rfl (kv_dec (i + 1) (by omega) (by omega)) (by decide) rfl ?_
            refine pm_goto (tgt := 12) d170_66 rfl ?_
            refine pm_pick [0, 1, 2] (L2 := [(0, _), (1, _), (2, _)]) rfl ?_
            rw [ek, pos_ns] at g2 g3
            exact ih (by omega) A1 g1 g0 g2 g3
          · omega
      refine pm_iload_n (i := 2) d170_12 rfl rfl ?_
      rw [show kv9 (i + 1) = nI i from rfl]
      refine pm_if_lt (tgt := 69) d170_13 rfl (fun c_13 => ?_) (fun c_13 => ?_)
      · exact absurd c_13 (nI_pos (by omega))
      · refine pm_iconst (v := nI 0) d170_16 (by decide) ?_
        refine pm_istore_n (i := 3) (L2 := [(0, _), (1, _), (2, _), (3, _)]) d170_17 rfl (by decide) rfl ?_
        exact inner 0 (Nat.zero_le _) A1 g1 g0 g2 g3
  refine pm_aload_n (i := 0) d170_0 rfl rfl ?_
  refine pm_iconst (v := nI 0) d170_1 (by decide) ?_
  refine pm_putI d170_2 lp_11_154 rfl rfl ?_
  refine pm_aload_n (i := 0) d170_5 rfl rfl ?_
  refine pm_getE (v := nI (nk (sF s))) d170_6 lf_11_100 rfl rfl (by rw [mset_ne (by decide), MI_nk hI]) ?_
  refine pm_iconst (v := nI 1) d170_9 (by decide) ?_
  first | refine pm_isubN d170_10 (by omega) ?_ | refine pm_isub d170_10 ?_
  refine pm_istore_n (i := 2) (L2 := [(0, _), (1, _), (2, _)]) d170_11 rfl (by decide) rfl ?_
  have := live (nk (sF s)) (Nat.le_refl _) (mset A 0 22 (nI 0)) (fun c c1 _ _ _ => by rw [mset_other c1]) (fun j hj => by rw [mset_ne hj]) (by rw [bs_n F1 F6]; exact ⟨by rw [mset_at]; rfl, fun b hb9 => absurd hb9 (Nat.not_lt_zero b)⟩) (fun j hj => by rw [bs_n F1 F6] at hj; exact absurd hj (Nat.not_lt_zero j))
  rw [show kv9 (nk (sF s)) = nI (nk (sF s) - 1) from if_neg (by omega)] at this
  exact this
