/-! THE REFERENCE'S WORLD, and what it reads there -/
def MH (f : Nat) (A : Mem) : Prop := A 0 6 = nI (nh f) ∧ ∀ a, a < nh f → A 4 a = hx f a ∧ A 5 a = hy f a ∧ A 6 a = hz f a
def MS (f : Nat) (A : Mem) : Prop := A 0 7 = nI (ns f) ∧ (∀ k, k < ns f → A 7 k = nI (lo f k) ∧ A 8 k = nI (hi f k)) ∧ ∀ a b, a < nh f → b < nh f → A 12 (146 * a + b) = opI (-1) (btw f a b)
def MF (f : Nat) (A : Mem) : Prop := A 0 8 = nI (nf f) ∧ ∀ i, i < 3 * nf f → A 13 i = nI (co f i)
def MK (f : Nat) (A : Mem) : Prop := A 0 9 = nI (nk f) ∧ (∀ k, k < ns f → A 9 k = nI (ko f k)) ∧ ∀ q, q < nk f → A 10 q = nI (qn f q * qn f q) ∧ A 11 q = nI (qd f q)
def MB (f : Nat) (A : Mem) : Prop := A 0 5 = nI f ∧ MH f A ∧ MS f A ∧ MF f A ∧ MK f A
/-- a state in the row c from place o on -/
def SM (c o : Nat) (s : Stt) (A : Mem) : Prop := A c o = nI (sF s) ∧ A c (o + 1) = nI (sR s) ∧ A c (o + 2) = sL s ∧ A c (o + 3) = nI (sB s) ∧ A c (o + 4) = nI (sW s) ∧ ∀ k, k < 432 → A c (o + 5 + k) = b2i (sM s k)
def MI (s : Stt) (A : Mem) : Prop := okS s ∧ MB (sF s) A ∧ SM 1 0 s A
theorem MI_bd {s : Stt} {A : Mem} (h : MI s A) : nh (sF s) ≤ 146 ∧ ns (sF s) ≤ 432 ∧ nf (sF s) ≤ 288 ∧ nk (sF s) ≤ 9 ∧ 6 ≤ nh (sF s) ∧ 12 ≤ ns (sF s) ∧ 8 ≤ nf (sF s) ∧ 1 ≤ nk (sF s) := bd_n h.1.1 h.1.2.1
theorem MI_nh {s : Stt} {A : Mem} (h : MI s A) : A 0 6 = nI (nh (sF s)) := h.2.1.2.1.1
theorem MI_ns {s : Stt} {A : Mem} (h : MI s A) : A 0 7 = nI (ns (sF s)) := h.2.1.2.2.1.1
theorem MI_nf {s : Stt} {A : Mem} (h : MI s A) : A 0 8 = nI (nf (sF s)) := h.2.1.2.2.2.1.1
theorem MI_nk {s : Stt} {A : Mem} (h : MI s A) : A 0 9 = nI (nk (sF s)) := h.2.1.2.2.2.2.1
theorem MI_xyz {s : Stt} {A : Mem} (h : MI s A) {a : Nat} (ha : a < nh (sF s)) : A 4 a = hx (sF s) a ∧ A 5 a = hy (sF s) a ∧ A 6 a = hz (sF s) a := h.2.1.2.1.2 a ha
theorem MI_lo {s : Stt} {A : Mem} (h : MI s A) {k : Nat} (hk : k < ns (sF s)) : A 7 k = nI (lo (sF s) k) ∧ A 8 k = nI (hi (sF s) k) := h.2.1.2.2.1.2.1 k hk
theorem MI_bt {s : Stt} {A : Mem} (h : MI s A) {a b : Nat} (ha : a < nh (sF s)) (hb : b < nh (sF s)) : A 12 (146 * a + b) = opI (-1) (btw (sF s) a b) := h.2.1.2.2.1.2.2 a b ha hb
theorem MI_co {s : Stt} {A : Mem} (h : MI s A) {i : Nat} (hi9 : i < 3 * nf (sF s)) : A 13 i = nI (co (sF s) i) := h.2.1.2.2.2.1.2 i hi9
theorem MI_ko {s : Stt} {A : Mem} (h : MI s A) {k : Nat} (hk : k < ns (sF s)) : A 9 k = nI (ko (sF s) k) := h.2.1.2.2.2.2.2.1 k hk
theorem MI_ms {s : Stt} {A : Mem} (h : MI s A) {k : Nat} (hk : k < 432) : A 1 (5 + k) = b2i (sM s k) := by
  have := h.2.2.2.2.2.2.2 k hk
  rw [Nat.zero_add] at this
  exact this
theorem MB_keep {f : Nat} {A A2 : Mem} (h : MB f A) (h0 : ∀ j, 5 ≤ j → j ≤ 9 → A2 0 j = A 0 j) (hk : ∀ c, 4 ≤ c → c ≤ 13 → A2 c = A c) : MB f A2 := by
  unfold MB MH MS MF MK at *
  simp only [h0 5 (by omega) (by omega), h0 6 (by omega) (by omega), h0 7 (by omega) (by omega), h0 8 (by omega) (by omega), h0 9 (by omega) (by omega), hk 4 (by omega) (by omega), hk 5 (by omega) (by omega), hk 6 (by omega) (by omega), hk 7 (by omega) (by omega), hk 8 (by omega) (by omega), hk 9 (by omega) (by omega), hk 10 (by omega) (by omega), hk 11 (by omega) (by omega), hk 12 (by omega) (by omega), hk 13 (by omega) (by omega)]
  exact h
theorem SM_keep {c o : Nat} {s : Stt} {A A2 : Mem} (h : SM c o s A) (hk : A2 c = A c) : SM c o s A2 := by
  unfold SM at *
  rw [hk]
  exact h
theorem MI_keep {s : Stt} {A A2 : Mem} (h : MI s A) (h0 : ∀ j, 5 ≤ j → j ≤ 9 → A2 0 j = A 0 j) (hk : ∀ c, 4 ≤ c → c ≤ 13 → A2 c = A c) (h1 : A2 1 = A 1) : MI s A2 := ⟨h.1, MB_keep h.2.1 h0 hk, SM_keep h.2.2 h1⟩
theorem b2i_1 {b : Bool} : (b2i b = nI 1 → b = true) ∧ (¬ b2i b = nI 1 → b = false) := by
  cases b
  · exact ⟨fun h => absurd h (by decide), fun _ => rfl⟩
  · exact ⟨fun _ => rfl, fun h => absurd rfl h⟩
theorem sp_113 {A : Mem} {Q : Int32 → Mem → Prop} {v a b : Int32} (h : Q (b2i (decide (a ≤ v) && decide (v ≤ b))) A) : pm_P 113 0 [(0, .int v), (1, .int a), (2, .int b)] [] A Q := by
  refine pm_iload_n (i := 0) d113_0 rfl rfl ?_
  refine pm_iload_n (i := 1) d113_1 rfl rfl ?_
  refine pm_icmp_lt (tgt := 14) d113_2 rfl (fun c_2 => ?_) (fun c_2 => ?_)
  · refine pm_iconst (v := nI 0) d113_14 (by decide) ?_
    refine pm_iret d113_15 rfl (by first | rfl | exact nar_b _) ?_
    have e : (decide (a ≤ v) && decide (v ≤ b)) = false := by
      rw [decide_eq_false (Int32.not_le.mpr c_2)]; rfl
    rw [e] at h
    exact h
  · refine pm_iload_n (i := 0) d113_5 rfl rfl ?_
    refine pm_iload_n (i := 2) d113_6 rfl rfl ?_
    refine pm_icmp_gt (tgt := 14) d113_7 rfl (fun c_7 => ?_) (fun c_7 => ?_)
    · refine pm_iconst (v := nI 0) d113_14 (by decide) ?_
      refine pm_iret d113_15 rfl (by first | rfl | exact nar_b _) ?_
      have e : (decide (a ≤ v) && decide (v ≤ b)) = false := by
        rw [decide_eq_false (Int32.not_le.mpr c_7), Bool.and_false]
      rw [e] at h
      exact h
    · refine pm_iconst (v := nI 1) d113_10 (by decide) ?_
      refine pm_goto (tgt := 15) d113_11 rfl ?_
      refine pm_iret d113_15 rfl (by first | rfl | exact nar_b _) ?_
      have e : (decide (a ≤ v) && decide (v ≤ b)) = true := by
        rw [decide_eq_true (Int32.not_lt.mp c_2), decide_eq_true (Int32.not_lt.mp c_7)]; rfl
      rw [e] at h
      exact h
def isz (v : Int32) : Int32 := if 0 ≤ v then v else -v
theorem sp_114 {A : Mem} {Q : Int32 → Mem → Prop} {v : Int32} (h : Q (isz v) A) : pm_P 114 0 [(0, .int v)] [] A Q := by
  unfold isz at h
  refine pm_iload_n (i := 0) d114_0 rfl rfl ?_
  refine pm_if_ge (tgt := 9) d114_1 rfl (fun c_1 => ?_) (fun c_1 => ?_)
  · refine pm_iload_n (i := 0) d114_9 rfl rfl ?_
    refine pm_iret d114_10 rfl (by first | rfl | exact nar_b _) ?_
    rw [if_pos c_1] at h
    exact h
  · refine pm_iload_n (i := 0) d114_4 rfl rfl ?_
    refine pm_ineg d114_5 ?_
    refine pm_goto (tgt := 10) d114_6 rfl ?_
    refine pm_iret d114_10 rfl (by first | rfl | exact nar_b _) ?_
    rw [if_neg c_1] at h
    exact h
theorem sp_120 {f : Nat} {A : Mem} {Q : Int32 → Mem → Prop} {a : Nat} (h1 : 1 ≤ f) (h6 : f ≤ 6) (hB : MH f A) (ha : a < nh f) (h : Q (pr f a a) A) : pm_P 120 0 [(0, .ref 0), (1, .int (nI a))] [] A Q := by
  have hbd := bd_n h1 h6
  obtain ⟨a1, a2, a3⟩ := hB.2 a ha
  refine pm_aload_n (i := 0) d120_0 rfl rfl ?_
  refine pm_getR d120_1 lf_11_20 rfl rfl ?_
  refine pm_iload_n (i := 1) d120_4 rfl rfl ?_
  refine pm_ialdN d120_5 rfl (by decide) (by omega) ?_
  refine pm_aload_n (i := 0) d120_6 rfl rfl ?_
  refine pm_getR d120_7 lf_11_20 rfl rfl ?_
  refine pm_iload_n (i := 1) d120_10 rfl rfl ?_
  refine pm_ialdN d120_11 rfl (by decide) (by omega) ?_
  refine pm_imul d120_12 ?_
  refine pm_aload_n (i := 0) d120_13 rfl rfl ?_
  refine pm_getR d120_14 lf_11_23 rfl rfl ?_
  refine pm_iload_n (i := 1) d120_17 rfl rfl ?_
  refine pm_ialdN d120_18 rfl (by decide) (by omega) ?_
  refine pm_aload_n (i := 0) d120_19 rfl rfl ?_
  refine pm_getR d120_20 lf_11_23 rfl rfl ?_
  refine pm_iload_n (i := 1) d120_23 rfl rfl ?_
  refine pm_ialdN d120_24 rfl (by decide) (by omega) ?_
  refine pm_imul d120_25 ?_
  refine pm_iadd d120_26 ?_
  refine pm_aload_n (i := 0) d120_27 rfl rfl ?_
  refine pm_getR d120_28 lf_11_26 rfl rfl ?_
  refine pm_iload_n (i := 1) d120_31 rfl rfl ?_
  refine pm_ialdN d120_32 rfl (by decide) (by omega) ?_
  refine pm_aload_n (i := 0) d120_33 rfl rfl ?_
  refine pm_getR d120_34 lf_11_26 rfl rfl ?_
  refine pm_iload_n (i := 1) d120_37 rfl rfl ?_
  refine pm_ialdN d120_38 rfl (by decide) (by omega) ?_
  refine pm_imul d120_39 ?_
  refine pm_iadd d120_40 ?_
  refine pm_iret d120_41 rfl (by first | rfl | exact nar_b _) ?_
  rw [a1, a2, a3]
  exact h
theorem sp_121 {f : Nat} {A : Mem} {Q : Int32 → Mem → Prop} {k : Nat} (h1 : 1 ≤ f) (h6 : f ≤ 6) (hB : MH f A) (hS : ∀ k, k < ns f → A 7 k = nI (lo f k) ∧ A 8 k = nI (hi f k)) (hk : k < ns f) (h : Q (nI (kn f k)) A) : pm_P 121 0 [(0, .ref 0), (1, .int (nI k))] [] A Q := by
  have hbd := bd_n h1 h6
  obtain ⟨l1, l2, -, -⟩ := bd_s h1 h6 hk
  obtain ⟨e1, e2⟩ := hS k hk
  obtain ⟨a1, a2, a3⟩ := hB.2 (lo f k) (by omega)
  obtain ⟨b1, b2, b3⟩ := hB.2 (hi f k) (by omega)
  rw [← (bd_pr h1 h6 hk).1] at h
  refine pm_aload_n (i := 0) d121_0 rfl rfl ?_
  refine pm_getR d121_1 lf_11_29 rfl rfl ?_
  refine pm_iload_n (i := 1) d121_4 rfl rfl ?_
  refine pm_ialdN d121_5 rfl (by decide) (by omega) ?_
  rw [e1]
  refine pm_istore_n (i := 2) (L2 := [(0, _), (1, _), (2, _)]) d121_6 rfl (by decide) rfl ?_
  refine pm_aload_n (i := 0) d121_7 rfl rfl ?_
  refine pm_getR d121_8 lf_11_32 rfl rfl ?_
  refine pm_iload_n (i := 1) d121_11 rfl rfl ?_
  refine pm_ialdN d121_12 rfl (by decide) (by omega) ?_
  rw [e2]
  refine pm_istore_n (i := 3) (L2 := [(0, _), (1, _), (2, _), (3, _)]) d121_13 rfl (by decide) rfl ?_
  refine pm_aload_n (i := 0) d121_14 rfl rfl ?_
  refine pm_getR d121_15 lf_11_20 rfl rfl ?_
  refine pm_iload_n (i := 2) d121_18 rfl rfl ?_
  refine pm_ialdN d121_19 rfl (by decide) (by omega) ?_
  refine pm_aload_n (i := 0) d121_20 rfl rfl ?_
  refine pm_getR d121_21 lf_11_20 rfl rfl ?_
  refine pm_iload_n (i := 3) d121_24 rfl rfl ?_
  refine pm_ialdN d121_25 rfl (by decide) (by omega) ?_
  refine pm_imul d121_26 ?_
  refine pm_aload_n (i := 0) d121_27 rfl rfl ?_
  refine pm_getR d121_28 lf_11_23 rfl rfl ?_
  refine pm_iload_n (i := 2) d121_31 rfl rfl ?_
  refine pm_ialdN d121_32 rfl (by decide) (by omega) ?_
  refine pm_aload_n (i := 0) d121_33 rfl rfl ?_
  refine pm_getR d121_34 lf_11_23 rfl rfl ?_
  refine pm_iload_n (i := 3) d121_37 rfl rfl ?_
  refine pm_ialdN d121_38 rfl (by decide) (by omega) ?_
  refine pm_imul d121_39 ?_
  refine pm_iadd d121_40 ?_
  refine pm_aload_n (i := 0) d121_41 rfl rfl ?_
  refine pm_getR d121_42 lf_11_26 rfl rfl ?_
  refine pm_iload_n (i := 2) d121_45 rfl rfl ?_
  refine pm_ialdN d121_46 rfl (by decide) (by omega) ?_
  refine pm_aload_n (i := 0) d121_47 rfl rfl ?_
  refine pm_getR d121_48 lf_11_26 rfl rfl ?_
  refine pm_iload_n (i := 3) d121_51 rfl rfl ?_
  refine pm_ialdN d121_52 rfl (by decide) (by omega) ?_
  refine pm_imul d121_53 ?_
  refine pm_iadd d121_54 ?_
  refine pm_iret d121_55 rfl (by first | rfl | exact nar_b _) ?_
  rw [a1, a2, a3, b1, b2, b3]
  exact h
theorem sp_122 {f : Nat} {A : Mem} {Q : Int32 → Mem → Prop} {k : Nat} (h1 : 1 ≤ f) (h6 : f ≤ 6) (hB : MH f A) (hS : ∀ k, k < ns f → A 7 k = nI (lo f k) ∧ A 8 k = nI (hi f k)) (hk : k < ns f) (h : Q (nI (kd f k)) A) : pm_P 122 0 [(0, .ref 0), (1, .int (nI k))] [] A Q := by
  have hbd := bd_n h1 h6
  obtain ⟨l1, l2, -, -⟩ := bd_s h1 h6 hk
  obtain ⟨e1, e2⟩ := hS k hk
  rw [← (bd_pr h1 h6 hk).2.1] at h
  refine pm_aload_n (i := 0) d122_0 rfl rfl ?_
  refine pm_aload_n (i := 0) d122_1 rfl rfl ?_
  refine pm_getR d122_2 lf_11_29 rfl rfl ?_
  refine pm_iload_n (i := 1) d122_5 rfl rfl ?_
  refine pm_ialdN d122_6 rfl (by decide) (by omega) ?_
  rw [e1]
  refine pm_callV (k2 := 120) (As := [_]) d122_7 lk_11_87 ok_120 rfl rfl rfl (Nat.le_of_ble_eq_true rfl) rfl rfl rfl rfl rfl ⟨Nat.le_of_ble_eq_true rfl, Nat.le_of_ble_eq_true rfl⟩ (Nat.le_of_ble_eq_true rfl) ?_
  refine sp_120 h1 h6 hB (by omega) ?_
  refine pm_aload_n (i := 0) d122_10 rfl rfl ?_
  refine pm_aload_n (i := 0) d122_11 rfl rfl ?_
  refine pm_getR d122_12 lf_11_32 rfl rfl ?_
  refine pm_iload_n (i := 1) d122_15 rfl rfl ?_
  refine pm_ialdN d122_16 rfl (by decide) (by omega) ?_
  rw [e2]
  refine pm_callV (k2 := 120) (As := [_]) d122_17 lk_11_87 ok_120 rfl rfl rfl (Nat.le_of_ble_eq_true rfl) rfl rfl rfl rfl rfl ⟨Nat.le_of_ble_eq_true rfl, Nat.le_of_ble_eq_true rfl⟩ (Nat.le_of_ble_eq_true rfl) ?_
  refine sp_120 h1 h6 hB (by omega) ?_
  refine pm_imul d122_20 ?_
  refine pm_iret d122_21 rfl (by first | rfl | exact nar_b _) ?_
  exact h
theorem sp_130 {s : Stt} {A : Mem} {Q : Int32 → Mem → Prop} {a : Nat} (hI : MI s A) (ha : a < nh (sF s)) (h : Q (b2i (kh s a)) A) : pm_P 130 0 [(0, .ref 0), (1, .int (nI a))] [] A Q := by
  have hb := MI_bd hI
  have e4 := (MI_xyz hI ha).2.2
  have e5 : A 1 2 = sL s := hI.2.2.2.2.1
  unfold kh at h
  refine pm_aload_n (i := 0) d130_0 rfl rfl ?_
  refine pm_getR d130_1 lf_11_26 rfl rfl ?_
  refine pm_iload_n (i := 1) d130_4 rfl rfl ?_
  refine pm_ialdN d130_5 rfl (by decide) (by omega) ?_
  rw [e4]
  refine pm_aload_n (i := 0) d130_6 rfl rfl ?_
  refine pm_getR d130_7 lf_11_7 rfl rfl ?_
  refine pm_iconst (v := nI 2) d130_10 (by decide) ?_
  refine pm_ialdN d130_11 rfl (by decide) (by omega) ?_
  rw [e5]
  refine pm_icmp_lt (tgt := 19) d130_12 rfl (fun c_12 => ?_) (fun c_12 => ?_)
  · refine pm_iconst (v := nI 0) d130_19 (by decide) ?_
    refine pm_iret d130_20 rfl (by first | rfl | exact nar_b _) ?_
    rw [decide_eq_false (Int32.not_le.mpr c_12)] at h
    exact h
  · refine pm_iconst (v := nI 1) d130_15 (by decide) ?_
    refine pm_goto (tgt := 20) d130_16 rfl ?_
    refine pm_iret d130_20 rfl (by first | rfl | exact nar_b _) ?_
    rw [decide_eq_true (Int32.not_lt.mp c_12)] at h
    exact h
theorem sp_131 {s : Stt} {A : Mem} {Q : Int32 → Mem → Prop} (hI : MI s A) (h : Q (nI (cnt (kh s) (nh (sF s)))) A) : pm_P 131 0 [(0, .ref 0)] [] A Q := by
  have hb := MI_bd hI
  have lp : ∀ i, i ≤ nh (sF s) → pm_P 131 4 [(0, .ref 0), (1, .int (nI (cnt (kh s) i))), (2, .int (nI i))] [] A Q := by
    refine up_ind (fun i hi9 ih => ?_)
    refine pm_iload_n (i := 2) d131_4 rfl rfl ?_
    refine pm_aload_n (i := 0) d131_5 rfl rfl ?_
    refine pm_getE d131_6 lf_11_76 rfl rfl (MI_nh hI) ?_
    first | refine pm_icmp_geN (tgt := 34) d131_9 rfl (by omega) (by omega) (fun c_9 => ?_) (fun c_9 => ?_) | refine pm_icmp_ge (tgt := 34) d131_9 rfl (fun c_9 => ?_) (fun c_9 => ?_)
    · refine pm_iload_n (i := 1) d131_34 rfl rfl ?_
      refine pm_iret d131_35 rfl (by first | rfl | exact nar_b _) ?_
      rw [show i = nh (sF s) by omega]
      exact h
    · refine pm_iload_n (i := 1) d131_12 rfl rfl ?_
      refine pm_aload_n (i := 0) d131_13 rfl rfl ?_
      refine pm_iload_n (i := 2) d131_14 rfl rfl ?_
      refine pm_callV (k2 := 130) (As := [_]) d131_15 lk_11_140 ok_130 rfl rfl rfl (Nat.le_of_ble_eq_true rfl) rfl rfl rfl rfl rfl ⟨Nat.le_of_ble_eq_true rfl, Nat.le_of_ble_eq_true rfl⟩ (Nat.le_of_ble_eq_true rfl) ?_
      refine sp_130 hI c_9 ?_
      first | refine pm_if_eqB (tgt := 25) d131_18 rfl (fun c_18 => ?_) (fun c_18 => ?_) | refine pm_if_eqN (tgt := 25) d131_18 rfl (by omega) (fun c_18 => ?_) (fun c_18 => ?_) | refine pm_if_eq (tgt := 25) d131_18 rfl (fun c_18 => ?_) (fun c_18 => ?_)
      · refine pm_iconst (v := nI 0) d131_25 (by decide) ?_
        first | refine pm_iaddN d131_26 ?_ | refine pm_iadd d131_26 ?_
        refine pm_istore_n (i := 1) (L2 := [(0, _), (1, _), (2, _)]) d131_27 rfl (by decide) rfl ?_
        first | refine pm_iincN 1 (L2 := [(0, _), (1, _), (2, _)]) d131_28 rfl (by decide) rfl ?_ | refine pm_iinc (L2 := [(0, _), (1, _), (2, _)]) d131_28 rfl rfl (by decide) rfl ?_
        refine pm_goto (tgt := 4) d131_31 rfl ?_
        have := ih c_9
        rw [cnt_f c_18] at this
        exact this
      · refine pm_iconst (v := nI 1) d131_21 (by decide) ?_
        refine pm_goto (tgt := 26) d131_22 rfl ?_
        first | refine pm_iaddN d131_26 ?_ | refine pm_iadd d131_26 ?_
        refine pm_istore_n (i := 1) (L2 := [(0, _), (1, _), (2, _)]) d131_27 rfl (by decide) rfl ?_
        first | refine pm_iincN 1 (L2 := [(0, _), (1, _), (2, _)]) d131_28 rfl (by decide) rfl ?_ | refine pm_iinc (L2 := [(0, _), (1, _), (2, _)]) d131_28 rfl rfl (by decide) rfl ?_
        refine pm_goto (tgt := 4) d131_31 rfl ?_
        have := ih c_9
        rw [cnt_t c_18] at this
        exact this
  refine pm_iconst (v := nI 0) d131_0 (by decide) ?_
  refine pm_istore_n (i := 1) (L2 := [(0, _), (1, _)]) d131_1 rfl (by decide) rfl ?_
  refine pm_iconst (v := nI 0) d131_2 (by decide) ?_
  refine pm_istore_n (i := 2) (L2 := [(0, _), (1, _), (2, _)]) d131_3 rfl (by decide) rfl ?_
  exact lp 0 (Nat.zero_le _)
theorem sp_134 {s : Stt} {A : Mem} {Q : Int32 → Mem → Prop} {i : Nat} (hI : MI s A) (hi9 : i < ns (sF s)) (h : Q (b2i (ks s i)) A) : pm_P 134 0 [(0, .ref 0), (1, .int (nI i))] [] A Q := by
  have hb := MI_bd hI
  obtain ⟨e1, e2⟩ := MI_lo hI hi9
  obtain ⟨b1, b2, -, -⟩ := bd_s hI.1.1 hI.1.2.1 hi9
  unfold ks at h
  refine pm_aload_n (i := 0) d134_0 rfl rfl ?_
  refine pm_aload_n (i := 0) d134_1 rfl rfl ?_
  refine pm_getR d134_2 lf_11_29 rfl rfl ?_
  refine pm_iload_n (i := 1) d134_5 rfl rfl ?_
  refine pm_ialdN d134_6 rfl (by decide) (by omega) ?_
  rw [e1]
  refine pm_callV (k2 := 130) (As := [_]) d134_7 lk_11_140 ok_130 rfl rfl rfl (Nat.le_of_ble_eq_true rfl) rfl rfl rfl rfl rfl ⟨Nat.le_of_ble_eq_true rfl, Nat.le_of_ble_eq_true rfl⟩ (Nat.le_of_ble_eq_true rfl) ?_
  refine sp_130 hI (by omega) ?_
  first | refine pm_if_eqB (tgt := 30) d134_10 rfl (fun c_10 => ?_) (fun c_10 => ?_) | refine pm_if_eqN (tgt := 30) d134_10 rfl (by omega) (fun c_10 => ?_) (fun c_10 => ?_) | refine pm_if_eq (tgt := 30) d134_10 rfl (fun c_10 => ?_) (fun c_10 => ?_)
  · refine pm_iconst (v := nI 0) d134_30 (by decide) ?_
    refine pm_iret d134_31 rfl (by first | rfl | exact nar_b _) ?_
    simp_all
    exact h
  · refine pm_aload_n (i := 0) d134_13 rfl rfl ?_
    refine pm_aload_n (i := 0) d134_14 rfl rfl ?_
    refine pm_getR d134_15 lf_11_32 rfl rfl ?_
    refine pm_iload_n (i := 1) d134_18 rfl rfl ?_
    refine pm_ialdN d134_19 rfl (by decide) (by omega) ?_
    rw [e2]
    refine pm_callV (k2 := 130) (As := [_]) d134_20 lk_11_140 ok_130 rfl rfl rfl (Nat.le_of_ble_eq_true rfl) rfl rfl rfl rfl rfl ⟨Nat.le_of_ble_eq_true rfl, Nat.le_of_ble_eq_true rfl⟩ (Nat.le_of_ble_eq_true rfl) ?_
    refine sp_130 hI (by omega) ?_
    first | refine pm_if_eqB (tgt := 30) d134_23 rfl (fun c_23 => ?_) (fun c_23 => ?_) | refine pm_if_eqN (tgt := 30) d134_23 rfl (by omega) (fun c_23 => ?_) (fun c_23 => ?_) | refine pm_if_eq (tgt := 30) d134_23 rfl (fun c_23 => ?_) (fun c_23 => ?_)
    · refine pm_iconst (v := nI 0) d134_30 (by decide) ?_
      refine pm_iret d134_31 rfl (by first | rfl | exact nar_b _) ?_
      simp_all
      exact h
    · refine pm_iconst (v := nI 1) d134_26 (by decide) ?_
      refine pm_goto (tgt := 31) d134_27 rfl ?_
      refine pm_iret d134_31 rfl (by first | rfl | exact nar_b _) ?_
      simp_all
      exact h
theorem sp_135 {s : Stt} {A : Mem} {Q : Int32 → Mem → Prop} {i : Nat} (hI : MI s A) (hi9 : i < 432) (h : Q (b2i (sM s i)) A) : pm_P 135 0 [(0, .ref 0), (1, .int (nI i))] [] A Q := by
  refine pm_aload_n (i := 0) d135_0 rfl rfl ?_
  refine pm_getR d135_1 lf_11_7 rfl rfl ?_
  refine pm_iconst (v := nI 5) d135_4 (by decide) ?_
  refine pm_iload_n (i := 1) d135_5 rfl rfl ?_
  first | refine pm_iaddN d135_6 ?_ | refine pm_iadd d135_6 ?_
  refine pm_ialdN d135_7 rfl (by decide) (by omega) ?_
  rw [MI_ms hI hi9]
  refine pm_iconst (v := nI 1) d135_8 (by decide) ?_
  refine pm_icmp_ne (tgt := 16) d135_9 rfl (fun c_9 => ?_) (fun c_9 => ?_)
  · refine pm_iconst (v := nI 0) d135_16 (by decide) ?_
    refine pm_iret d135_17 rfl (by first | rfl | exact nar_b _) ?_
    rw [b2i_1.2 c_9] at h
    exact h
  · refine pm_iconst (v := nI 1) d135_12 (by decide) ?_
    refine pm_goto (tgt := 17) d135_13 rfl ?_
    refine pm_iret d135_17 rfl (by first | rfl | exact nar_b _) ?_
    rw [b2i_1.1 c_9] at h
    exact h
theorem sp_136 {s : Stt} {A : Mem} {Q : Int32 → Mem → Prop} {i : Nat} (hI : MI s A) (hi9 : i < nf (sF s)) (h : Q (b2i (kf s i)) A) : pm_P 136 0 [(0, .ref 0), (1, .int (nI i))] [] A Q := by
  have hb := MI_bd hI
  have e0 := MI_co hI (i := 3 * i) (by omega)
  have e1 := MI_co hI (i := 3 * i + 1) (by omega)
  have e2 := MI_co hI (i := 3 * i + 2) (by omega)
  have b0 := (bd_f hI.1.1 hI.1.2.1 (i := 3 * i) (by omega)).1
  have b1 := (bd_f hI.1.1 hI.1.2.1 (i := 3 * i + 1) (by omega)).1
  have b2 := (bd_f hI.1.1 hI.1.2.1 (i := 3 * i + 2) (by omega)).1
  unfold kf at h
  refine pm_aload_n (i := 0) d136_0 rfl rfl ?_
  refine pm_aload_n (i := 0) d136_1 rfl rfl ?_
  refine pm_getR d136_2 lf_11_47 rfl rfl ?_
  refine pm_iconst (v := nI 3) d136_5 (by decide) ?_
  refine pm_iload_n (i := 1) d136_6 rfl rfl ?_
  first | refine pm_imulN d136_7 ?_ | refine pm_imul d136_7 ?_
  refine pm_ialdN d136_8 rfl (by decide) (by omega) ?_
  rw [e0]
  refine pm_callV (k2 := 130) (As := [_]) d136_9 lk_11_140 ok_130 rfl rfl rfl (Nat.le_of_ble_eq_true rfl) rfl rfl rfl rfl rfl ⟨Nat.le_of_ble_eq_true rfl, Nat.le_of_ble_eq_true rfl⟩ (Nat.le_of_ble_eq_true rfl) ?_
  refine sp_130 hI b0 ?_
  first | refine pm_if_eqB (tgt := 53) d136_12 rfl (fun c_12 => ?_) (fun c_12 => ?_) | refine pm_if_eqN (tgt := 53) d136_12 rfl (by omega) (fun c_12 => ?_) (fun c_12 => ?_) | refine pm_if_eq (tgt := 53) d136_12 rfl (fun c_12 => ?_) (fun c_12 => ?_)
  · refine pm_iconst (v := nI 0) d136_53 (by decide) ?_
    refine pm_iret d136_54 rfl (by first | rfl | exact nar_b _) ?_
    simp_all
    exact h
  · refine pm_aload_n (i := 0) d136_15 rfl rfl ?_
    refine pm_aload_n (i := 0) d136_16 rfl rfl ?_
    refine pm_getR d136_17 lf_11_47 rfl rfl ?_
    refine pm_iconst (v := nI 3) d136_20 (by decide) ?_
    refine pm_iload_n (i := 1) d136_21 rfl rfl ?_
    first | refine pm_imulN d136_22 ?_ | refine pm_imul d136_22 ?_
    refine pm_iconst (v := nI 1) d136_23 (by decide) ?_
    first | refine pm_iaddN d136_24 ?_ | refine pm_iadd d136_24 ?_
    refine pm_ialdN d136_25 rfl (by decide) (by omega) ?_
    rw [e1]
    refine pm_callV (k2 := 130) (As := [_]) d136_26 lk_11_140 ok_130 rfl rfl rfl (Nat.le_of_ble_eq_true rfl) rfl rfl rfl rfl rfl ⟨Nat.le_of_ble_eq_true rfl, Nat.le_of_ble_eq_true rfl⟩ (Nat.le_of_ble_eq_true rfl) ?_
    refine sp_130 hI b1 ?_
    first | refine pm_if_eqB (tgt := 53) d136_29 rfl (fun c_29 => ?_) (fun c_29 => ?_) | refine pm_if_eqN (tgt := 53) d136_29 rfl (by omega) (fun c_29 => ?_) (fun c_29 => ?_) | refine pm_if_eq (tgt := 53) d136_29 rfl (fun c_29 => ?_) (fun c_29 => ?_)
    · refine pm_iconst (v := nI 0) d136_53 (by decide) ?_
      refine pm_iret d136_54 rfl (by first | rfl | exact nar_b _) ?_
      simp_all
      exact h
    · refine pm_aload_n (i := 0) d136_32 rfl rfl ?_
      refine pm_aload_n (i := 0) d136_33 rfl rfl ?_
      refine pm_getR d136_34 lf_11_47 rfl rfl ?_
      refine pm_iconst (v := nI 3) d136_37 (by decide) ?_
      refine pm_iload_n (i := 1) d136_38 rfl rfl ?_
      first | refine pm_imulN d136_39 ?_ | refine pm_imul d136_39 ?_
      refine pm_iconst (v := nI 2) d136_40 (by decide) ?_
      first | refine pm_iaddN d136_41 ?_ | refine pm_iadd d136_41 ?_
      refine pm_ialdN d136_42 rfl (by decide) (by omega) ?_
      rw [e2]
      refine pm_callV (k2 := 130) (As := [_]) d136_43 lk_11_140 ok_130 rfl rfl rfl (Nat.le_of_ble_eq_true rfl) rfl rfl rfl rfl rfl ⟨Nat.le_of_ble_eq_true rfl, Nat.le_of_ble_eq_true rfl⟩ (Nat.le_of_ble_eq_true rfl) ?_
      refine sp_130 hI b2 ?_
      first | refine pm_if_eqB (tgt := 53) d136_46 rfl (fun c_46 => ?_) (fun c_46 => ?_) | refine pm_if_eqN (tgt := 53) d136_46 rfl (by omega) (fun c_46 => ?_) (fun c_46 => ?_) | refine pm_if_eq (tgt := 53) d136_46 rfl (fun c_46 => ?_) (fun c_46 => ?_)
      · refine pm_iconst (v := nI 0) d136_53 (by decide) ?_
        refine pm_iret d136_54 rfl (by first | rfl | exact nar_b _) ?_
        simp_all
        exact h
      · refine pm_iconst (v := nI 1) d136_49 (by decide) ?_
        refine pm_goto (tgt := 54) d136_50 rfl ?_
        refine pm_iret d136_54 rfl (by first | rfl | exact nar_b _) ?_
        simp_all
        exact h
theorem tk_bc : allF (fun f => allN (nf f) (fun i => Nat.beq ((btw f (co f (3 * i)) (co f (3 * i + 1))).getD 999) (sd f (3 * i)) && (Nat.beq ((btw f (co f (3 * i)) (co f (3 * i + 2))).getD 999) (sd f (3 * i + 1)) && Nat.beq ((btw f (co f (3 * i + 1)) (co f (3 * i + 2))).getD 999) (sd f (3 * i + 2))))) = true := by decide +kernel
theorem getD_some {o : Option Nat} {k : Nat} (h : o.getD 999 = k) (hk : k < 999) : o = some k := by
  cases o with
  | none => have : (999 : Nat) = k := h; omega
  | some j => have : j = k := h; rw [this]
theorem bd_bc {f i : Nat} (h1 : 1 ≤ f) (h6 : f ≤ 6) (hi9 : i < nf f) : btw f (co f (3 * i)) (co f (3 * i + 1)) = some (sd f (3 * i)) ∧ btw f (co f (3 * i)) (co f (3 * i + 2)) = some (sd f (3 * i + 1)) ∧ btw f (co f (3 * i + 1)) (co f (3 * i + 2)) = some (sd f (3 * i + 2)) := by
  have hb := bd_n h1 h6
  have h2 := allN_of (allF_of tk_bc h1 h6) hi9
  simp only [Bool.and_eq_true, Nat.beq_eq] at h2
  have b0 := (bd_f h1 h6 (i := 3 * i) (by omega)).2
  have b1 := (bd_f h1 h6 (i := 3 * i + 1) (by omega)).2
  have b2 := (bd_f h1 h6 (i := 3 * i + 2) (by omega)).2
  exact ⟨getD_some h2.1 (by omega), getD_some h2.2.1 (by omega), getD_some h2.2.2 (by omega)⟩
theorem sp_137 {s : Stt} {A : Mem} {Q : Int32 → Mem → Prop} {i j : Nat} (hI : MI s A) (hi9 : i < nf (sF s)) (hj : j < 3) (h : Q (nI (sd (sF s) (3 * i + j))) A) : pm_P 137 0 [(0, .ref 0), (1, .int (nI i)), (2, .int (nI j))] [] A Q := by
  have hb := MI_bd hI
  have e0 := MI_co hI (i := 3 * i) (by omega)
  have e1 := MI_co hI (i := 3 * i + 1) (by omega)
  have e2 := MI_co hI (i := 3 * i + 2) (by omega)
  have b0 := (bd_f hI.1.1 hI.1.2.1 (i := 3 * i) (by omega)).1
  have b1 := (bd_f hI.1.1 hI.1.2.1 (i := 3 * i + 1) (by omega)).1
  have b2 := (bd_f hI.1.1 hI.1.2.1 (i := 3 * i + 2) (by omega)).1
  obtain ⟨q0, q1, q2⟩ := bd_bc hI.1.1 hI.1.2.1 hi9
  rcases (show j = 0 ∨ j = 1 ∨ j = 2 by omega) with rfl | rfl | rfl
  · skip
    refine pm_aload_n (i := 0) d137_0 rfl rfl ?_
    refine pm_getR d137_1 lf_11_47 rfl rfl ?_
    refine pm_iconst (v := nI 3) d137_4 (by decide) ?_
    refine pm_iload_n (i := 1) d137_5 rfl rfl ?_
    first | refine pm_imulN d137_6 ?_ | refine pm_imul d137_6 ?_
    refine pm_iload_n (i := 2) d137_7 rfl rfl ?_
    refine pm_iconst (v := nI 2) d137_8 (by decide) ?_
    first | refine pm_icmp_neN (tgt := 16) d137_9 rfl (by omega) (by omega) (fun c_9 => ?_) (fun c_9 => ?_) | refine pm_icmp_ne (tgt := 16) d137_9 rfl (fun c_9 => ?_) (fun c_9 => ?_)
    · refine pm_iconst (v := nI 0) d137_16 (by decide) ?_
      first | refine pm_iaddN d137_17 ?_ | refine pm_iadd d137_17 ?_
      refine pm_ialdN d137_18 rfl (by decide) (by omega) ?_
      rw [show 3 * i + 0 = 3 * i from rfl, e0]
      refine pm_istore_n (i := 3) (L2 := [(0, _), (1, _), (2, _), (3, _)]) d137_19 rfl (by decide) rfl ?_
      refine pm_aload_n (i := 0) d137_20 rfl rfl ?_
      refine pm_getR d137_21 lf_11_47 rfl rfl ?_
      refine pm_iconst (v := nI 3) d137_24 (by decide) ?_
      refine pm_iload_n (i := 1) d137_25 rfl rfl ?_
      first | refine pm_imulN d137_26 ?_ | refine pm_imul d137_26 ?_
      refine pm_iload_n (i := 2) d137_27 rfl rfl ?_
      first | refine pm_if_neB (tgt := 35) d137_28 rfl (fun c_28 => ?_) (fun c_28 => ?_) | refine pm_if_neN (tgt := 35) d137_28 rfl (by omega) (fun c_28 => ?_) (fun c_28 => ?_) | refine pm_if_ne (tgt := 35) d137_28 rfl (fun c_28 => ?_) (fun c_28 => ?_)
      · omega
      · refine pm_iconst (v := nI 1) d137_31 (by decide) ?_
        refine pm_goto (tgt := 36) d137_32 rfl ?_
        first | refine pm_iaddN d137_36 ?_ | refine pm_iadd d137_36 ?_
        refine pm_ialdN d137_37 rfl (by decide) (by omega) ?_
        rw [e1]
        refine pm_istore (L2 := [(0, _), (1, _), (2, _), (3, _), (4, _)]) d137_38 (by decide) rfl ?_
        refine pm_aload_n (i := 0) d137_40 rfl rfl ?_
        refine pm_getR d137_41 lf_11_44 rfl rfl ?_
        refine pm_sipush (v := nI 146) d137_44 (by decide) ?_
        refine pm_iload_n (i := 3) d137_47 rfl rfl ?_
        first | refine pm_imulN d137_48 ?_ | refine pm_imul d137_48 ?_
        refine pm_iload d137_49 rfl ?_
        first | refine pm_iaddN d137_51 ?_ | refine pm_iadd d137_51 ?_
        refine pm_ialdN d137_52 rfl (by decide) (by omega) ?_
        rw [MI_bt hI b0 b1, q0]
        refine pm_iret d137_53 rfl (by first | rfl | exact nar_b _) ?_
        exact h
    · omega
  · skip
    refine pm_aload_n (i := 0) d137_0 rfl rfl ?_
    refine pm_getR d137_1 lf_11_47 rfl rfl ?_
    refine pm_iconst (v := nI 3) d137_4 (by decide) ?_
    refine pm_iload_n (i := 1) d137_5 rfl rfl ?_
    first | refine pm_imulN d137_6 ?_ | refine pm_imul d137_6 ?_
    refine pm_iload_n (i := 2) d137_7 rfl rfl ?_
    refine pm_iconst (v := nI 2) d137_8 (by decide) ?_
    first | refine pm_icmp_neN (tgt := 16) d137_9 rfl (by omega) (by omega) (fun c_9 => ?_) (fun c_9 => ?_) | refine pm_icmp_ne (tgt := 16) d137_9 rfl (fun c_9 => ?_) (fun c_9 => ?_)
    · refine pm_iconst (v := nI 0) d137_16 (by decide) ?_
      first | refine pm_iaddN d137_17 ?_ | refine pm_iadd d137_17 ?_
      refine pm_ialdN d137_18 rfl (by decide) (by omega) ?_
      rw [show 3 * i + 0 = 3 * i from rfl, e0]
      refine pm_istore_n (i := 3) (L2 := [(0, _), (1, _), (2, _), (3, _)]) d137_19 rfl (by decide) rfl ?_
      refine pm_aload_n (i := 0) d137_20 rfl rfl ?_
      refine pm_getR d137_21 lf_11_47 rfl rfl ?_
      refine pm_iconst (v := nI 3) d137_24 (by decide) ?_
      refine pm_iload_n (i := 1) d137_25 rfl rfl ?_
      first | refine pm_imulN d137_26 ?_ | refine pm_imul d137_26 ?_
      refine pm_iload_n (i := 2) d137_27 rfl rfl ?_
      first | refine pm_if_neB (tgt := 35) d137_28 rfl (fun c_28 => ?_) (fun c_28 => ?_) | refine pm_if_neN (tgt := 35) d137_28 rfl (by omega) (fun c_28 => ?_) (fun c_28 => ?_) | refine pm_if_ne (tgt := 35) d137_28 rfl (fun c_28 => ?_) (fun c_28 => ?_)
      · refine pm_iconst (v := nI 2) d137_35 (by decide) ?_
        first | refine pm_iaddN d137_36 ?_ | refine pm_iadd d137_36 ?_
        refine pm_ialdN d137_37 rfl (by decide) (by omega) ?_
        rw [e2]
        refine pm_istore (L2 := [(0, _), (1, _), (2, _), (3, _), (4, _)]) d137_38 (by decide) rfl ?_
        refine pm_aload_n (i := 0) d137_40 rfl rfl ?_
        refine pm_getR d137_41 lf_11_44 rfl rfl ?_
        refine pm_sipush (v := nI 146) d137_44 (by decide) ?_
        refine pm_iload_n (i := 3) d137_47 rfl rfl ?_
        first | refine pm_imulN d137_48 ?_ | refine pm_imul d137_48 ?_
        refine pm_iload d137_49 rfl ?_
        first | refine pm_iaddN d137_51 ?_ | refine pm_iadd d137_51 ?_
        refine pm_ialdN d137_52 rfl (by decide) (by omega) ?_
        rw [MI_bt hI b0 b2, q1]
        refine pm_iret d137_53 rfl (by first | rfl | exact nar_b _) ?_
        exact h
      · omega
    · omega
  · skip
    refine pm_aload_n (i := 0) d137_0 rfl rfl ?_
    refine pm_getR d137_1 lf_11_47 rfl rfl ?_
    refine pm_iconst (v := nI 3) d137_4 (by decide) ?_
    refine pm_iload_n (i := 1) d137_5 rfl rfl ?_
    first | refine pm_imulN d137_6 ?_ | refine pm_imul d137_6 ?_
    refine pm_iload_n (i := 2) d137_7 rfl rfl ?_
    refine pm_iconst (v := nI 2) d137_8 (by decide) ?_
    first | refine pm_icmp_neN (tgt := 16) d137_9 rfl (by omega) (by omega) (fun c_9 => ?_) (fun c_9 => ?_) | refine pm_icmp_ne (tgt := 16) d137_9 rfl (fun c_9 => ?_) (fun c_9 => ?_)
    · omega
    · refine pm_iconst (v := nI 1) d137_12 (by decide) ?_
      refine pm_goto (tgt := 17) d137_13 rfl ?_
      first | refine pm_iaddN d137_17 ?_ | refine pm_iadd d137_17 ?_
      refine pm_ialdN d137_18 rfl (by decide) (by omega) ?_
      rw [e1]
      refine pm_istore_n (i := 3) (L2 := [(0, _), (1, _), (2, _), (3, _)]) d137_19 rfl (by decide) rfl ?_
      refine pm_aload_n (i := 0) d137_20 rfl rfl ?_
      refine pm_getR d137_21 lf_11_47 rfl rfl ?_
      refine pm_iconst (v := nI 3) d137_24 (by decide) ?_
      refine pm_iload_n (i := 1) d137_25 rfl rfl ?_
      first | refine pm_imulN d137_26 ?_ | refine pm_imul d137_26 ?_
      refine pm_iload_n (i := 2) d137_27 rfl rfl ?_
      first | refine pm_if_neB (tgt := 35) d137_28 rfl (fun c_28 => ?_) (fun c_28 => ?_) | refine pm_if_neN (tgt := 35) d137_28 rfl (by omega) (fun c_28 => ?_) (fun c_28 => ?_) | refine pm_if_ne (tgt := 35) d137_28 rfl (fun c_28 => ?_) (fun c_28 => ?_)
      · refine pm_iconst (v := nI 2) d137_35 (by decide) ?_
        first | refine pm_iaddN d137_36 ?_ | refine pm_iadd d137_36 ?_
        refine pm_ialdN d137_37 rfl (by decide) (by omega) ?_
        rw [e2]
        refine pm_istore (L2 := [(0, _), (1, _), (2, _), (3, _), (4, _)]) d137_38 (by decide) rfl ?_
        refine pm_aload_n (i := 0) d137_40 rfl rfl ?_
        refine pm_getR d137_41 lf_11_44 rfl rfl ?_
        refine pm_sipush (v := nI 146) d137_44 (by decide) ?_
        refine pm_iload_n (i := 3) d137_47 rfl rfl ?_
        first | refine pm_imulN d137_48 ?_ | refine pm_imul d137_48 ?_
        refine pm_iload d137_49 rfl ?_
        first | refine pm_iaddN d137_51 ?_ | refine pm_iadd d137_51 ?_
        refine pm_ialdN d137_52 rfl (by decide) (by omega) ?_
        rw [MI_bt hI b1 b2, q2]
        refine pm_iret d137_53 rfl (by first | rfl | exact nar_b _) ?_
        exact h
      · omega
/-- a hole -/
def hf9 (s : Stt) (i : Nat) : Bool := kf s i && !cf s i
theorem sp_138 {s : Stt} {A : Mem} {Q : Int32 → Mem → Prop} {i : Nat} (hI : MI s A) (hi9 : i < nf (sF s)) (h : Q (b2i (hf9 s i)) A) : pm_P 138 0 [(0, .ref 0), (1, .int (nI i))] [] A Q := by
  have hb := MI_bd hI
  have b0 := (bd_f hI.1.1 hI.1.2.1 (i := 3 * i) (by omega)).2
  have b1 := (bd_f hI.1.1 hI.1.2.1 (i := 3 * i + 1) (by omega)).2
  have b2 := (bd_f hI.1.1 hI.1.2.1 (i := 3 * i + 2) (by omega)).2
  unfold hf9 cf at h
  refine pm_aload_n (i := 0) d138_0 rfl rfl ?_
  refine pm_iload_n (i := 1) d138_1 rfl rfl ?_
  refine pm_callV (k2 := 136) (As := [_]) d138_2 lk_11_157 ok_136 rfl rfl rfl (Nat.le_of_ble_eq_true rfl) rfl rfl rfl rfl rfl ⟨Nat.le_of_ble_eq_true rfl, Nat.le_of_ble_eq_true rfl⟩ (Nat.le_of_ble_eq_true rfl) ?_
  refine sp_136 hI hi9 ?_
  first | refine pm_if_eqB (tgt := 51) d138_5 rfl (fun c_5 => ?_) (fun c_5 => ?_) | refine pm_if_eqN (tgt := 51) d138_5 rfl (by omega) (fun c_5 => ?_) (fun c_5 => ?_) | refine pm_if_eq (tgt := 51) d138_5 rfl (fun c_5 => ?_) (fun c_5 => ?_)
  · refine pm_iconst (v := nI 0) d138_51 (by decide) ?_
    refine pm_iret d138_52 rfl (by first | rfl | exact nar_b _) ?_
    simp_all
    exact h
  · refine pm_aload_n (i := 0) d138_8 rfl rfl ?_
    refine pm_aload_n (i := 0) d138_9 rfl rfl ?_
    refine pm_iload_n (i := 1) d138_10 rfl rfl ?_
    refine pm_iconst (v := nI 0) d138_11 (by decide) ?_
    refine pm_callV (k2 := 137) (As := [_, _]) d138_12 lk_11_160 ok_137 rfl rfl rfl (Nat.le_of_ble_eq_true rfl) rfl rfl rfl rfl rfl ⟨Nat.le_of_ble_eq_true rfl, Nat.le_of_ble_eq_true rfl⟩ (Nat.le_of_ble_eq_true rfl) ?_
    refine sp_137 (j := 0) hI hi9 (by decide) ?_
    rw [show 3 * i + 0 = 3 * i from rfl]
    refine pm_callV (k2 := 135) (As := [_]) d138_15 lk_11_163 ok_135 rfl rfl rfl (Nat.le_of_ble_eq_true rfl) rfl rfl rfl rfl rfl ⟨Nat.le_of_ble_eq_true rfl, Nat.le_of_ble_eq_true rfl⟩ (Nat.le_of_ble_eq_true rfl) ?_
    refine sp_135 hI (by omega) ?_
    first | refine pm_if_neB (tgt := 47) d138_18 rfl (fun c_18 => ?_) (fun c_18 => ?_) | refine pm_if_neN (tgt := 47) d138_18 rfl (by omega) (fun c_18 => ?_) (fun c_18 => ?_) | refine pm_if_ne (tgt := 47) d138_18 rfl (fun c_18 => ?_) (fun c_18 => ?_)
    · refine pm_iconst (v := nI 1) d138_47 (by decide) ?_
      refine pm_goto (tgt := 52) d138_48 rfl ?_
      refine pm_iret d138_52 rfl (by first | rfl | exact nar_b _) ?_
      simp_all
      exact h
    · refine pm_aload_n (i := 0) d138_21 rfl rfl ?_
      refine pm_aload_n (i := 0) d138_22 rfl rfl ?_
      refine pm_iload_n (i := 1) d138_23 rfl rfl ?_
      refine pm_iconst (v := nI 1) d138_24 (by decide) ?_
      refine pm_callV (k2 := 137) (As := [_, _]) d138_25 lk_11_160 ok_137 rfl rfl rfl (Nat.le_of_ble_eq_true rfl) rfl rfl rfl rfl rfl ⟨Nat.le_of_ble_eq_true rfl, Nat.le_of_ble_eq_true rfl⟩ (Nat.le_of_ble_eq_true rfl) ?_
      refine sp_137 (j := 1) hI hi9 (by decide) ?_
      refine pm_callV (k2 := 135) (As := [_]) d138_28 lk_11_163 ok_135 rfl rfl rfl (Nat.le_of_ble_eq_true rfl) rfl rfl rfl rfl rfl ⟨Nat.le_of_ble_eq_true rfl, Nat.le_of_ble_eq_true rfl⟩ (Nat.le_of_ble_eq_true rfl) ?_
      refine sp_135 hI (by omega) ?_
      first | refine pm_if_neB (tgt := 47) d138_31 rfl (fun c_31 => ?_) (fun c_31 => ?_) | refine pm_if_neN (tgt := 47) d138_31 rfl (by omega) (fun c_31 => ?_) (fun c_31 => ?_) | refine pm_if_ne (tgt := 47) d138_31 rfl (fun c_31 => ?_) (fun c_31 => ?_)
      · refine pm_iconst (v := nI 1) d138_47 (by decide) ?_
        refine pm_goto (tgt := 52) d138_48 rfl ?_
        refine pm_iret d138_52 rfl (by first | rfl | exact nar_b _) ?_
        simp_all
        exact h
      · refine pm_aload_n (i := 0) d138_34 rfl rfl ?_
        refine pm_aload_n (i := 0) d138_35 rfl rfl ?_
        refine pm_iload_n (i := 1) d138_36 rfl rfl ?_
        refine pm_iconst (v := nI 2) d138_37 (by decide) ?_
        refine pm_callV (k2 := 137) (As := [_, _]) d138_38 lk_11_160 ok_137 rfl rfl rfl (Nat.le_of_ble_eq_true rfl) rfl rfl rfl rfl rfl ⟨Nat.le_of_ble_eq_true rfl, Nat.le_of_ble_eq_true rfl⟩ (Nat.le_of_ble_eq_true rfl) ?_
        refine sp_137 (j := 2) hI hi9 (by decide) ?_
        refine pm_callV (k2 := 135) (As := [_]) d138_41 lk_11_163 ok_135 rfl rfl rfl (Nat.le_of_ble_eq_true rfl) rfl rfl rfl rfl rfl ⟨Nat.le_of_ble_eq_true rfl, Nat.le_of_ble_eq_true rfl⟩ (Nat.le_of_ble_eq_true rfl) ?_
        refine sp_135 hI (by omega) ?_
        first | refine pm_if_eqB (tgt := 51) d138_44 rfl (fun c_44 => ?_) (fun c_44 => ?_) | refine pm_if_eqN (tgt := 51) d138_44 rfl (by omega) (fun c_44 => ?_) (fun c_44 => ?_) | refine pm_if_eq (tgt := 51) d138_44 rfl (fun c_44 => ?_) (fun c_44 => ?_)
        · refine pm_iconst (v := nI 0) d138_51 (by decide) ?_
          refine pm_iret d138_52 rfl (by first | rfl | exact nar_b _) ?_
          simp_all
          exact h
        · refine pm_iconst (v := nI 1) d138_47 (by decide) ?_
          refine pm_goto (tgt := 52) d138_48 rfl ?_
          refine pm_iret d138_52 rfl (by first | rfl | exact nar_b _) ?_
          simp_all
          exact h
theorem sp_140 {s : Stt} {A : Mem} {Q : Int32 → Mem → Prop} {w : Nat} (hI : MI s A) (hw : w < 3) (h : Q (nI (cnt (fun k => (Nat.beq w 2 || ks s k) && (Nat.beq w 0 || sM s k)) (ns (sF s)))) A) : pm_P 140 0 [(0, .ref 0), (1, .int (nI w))] [] A Q := by
  have hb := MI_bd hI
  generalize hp : (fun k => (Nat.beq w 2 || ks s k) && (Nat.beq w 0 || sM s k)) = p at h
  have hp : ∀ k, p k = ((Nat.beq w 2 || ks s k) && (Nat.beq w 0 || sM s k)) := fun k => by rw [← hp]
  have lp : ∀ i, i ≤ ns (sF s) → pm_P 140 4 [(0, .ref 0), (1, .int (nI w)), (2, .int (nI (cnt p i))), (3, .int (nI i))] [] A Q := by
    refine up_ind (fun i hi9 ih => ?_)
    have hpi := hp i
    rcases (show w = 0 ∨ w = 1 ∨ w = 2 by omega) with rfl | rfl | rfl
    · simp only [show Nat.beq 0 2 = false from rfl, show Nat.beq 0 0 = true from rfl, Bool.false_or, Bool.true_or, Bool.and_true] at hpi
      refine pm_iload_n (i := 3) d140_4 rfl rfl ?_
      refine pm_aload_n (i := 0) d140_5 rfl rfl ?_
      refine pm_getE d140_6 lf_11_90 rfl rfl (MI_ns hI) ?_
      first | refine pm_icmp_geN (tgt := 51) d140_9 rfl (by omega) (by omega) (fun c_9 => ?_) (fun c_9 => ?_) | refine pm_icmp_ge (tgt := 51) d140_9 rfl (fun c_9 => ?_) (fun c_9 => ?_)
      · refine pm_iload_n (i := 2) d140_51 rfl rfl ?_
        refine pm_iret d140_52 rfl (by first | rfl | exact nar_b _) ?_
        rw [show i = ns (sF s) by omega]
        exact h
      · refine pm_iload_n (i := 2) d140_12 rfl rfl ?_
        refine pm_iload_n (i := 1) d140_13 rfl rfl ?_
        refine pm_iconst (v := nI 2) d140_14 (by decide) ?_
        first | refine pm_icmp_eqN (tgt := 26) d140_15 rfl (by omega) (by omega) (fun c_15 => ?_) (fun c_15 => ?_) | refine pm_icmp_eq (tgt := 26) d140_15 rfl (fun c_15 => ?_) (fun c_15 => ?_)
        · omega
        · refine pm_aload_n (i := 0) d140_18 rfl rfl ?_
          refine pm_iload_n (i := 3) d140_19 rfl rfl ?_
          refine pm_callV (k2 := 134) (As := [_]) d140_20 lk_11_166 ok_134 rfl rfl rfl (Nat.le_of_ble_eq_true rfl) rfl rfl rfl rfl rfl ⟨Nat.le_of_ble_eq_true rfl, Nat.le_of_ble_eq_true rfl⟩ (Nat.le_of_ble_eq_true rfl) ?_
          refine sp_134 hI c_9 ?_
          first | refine pm_if_eqB (tgt := 42) d140_23 rfl (fun c_23 => ?_) (fun c_23 => ?_) | refine pm_if_eqN (tgt := 42) d140_23 rfl (by omega) (fun c_23 => ?_) (fun c_23 => ?_) | refine pm_if_eq (tgt := 42) d140_23 rfl (fun c_23 => ?_) (fun c_23 => ?_)
          · refine pm_iconst (v := nI 0) d140_42 (by decide) ?_
            first | refine pm_iaddN d140_43 ?_ | refine pm_iadd d140_43 ?_
            refine pm_istore_n (i := 2) (L2 := [(0, _), (1, _), (2, _), (3, _)]) d140_44 rfl (by decide) rfl ?_
            first | refine pm_iincN 1 (L2 := [(0, _), (1, _), (2, _), (3, _)]) d140_45 rfl (by decide) rfl ?_ | refine pm_iinc (L2 := [(0, _), (1, _), (2, _), (3, _)]) d140_45 rfl rfl (by decide) rfl ?_
            refine pm_goto (tgt := 4) d140_48 rfl ?_
            have := ih c_9
            rw [cnt_f (hpi.trans c_23)] at this
            exact this
          · refine pm_iload_n (i := 1) d140_26 rfl rfl ?_
            first | refine pm_if_eqB (tgt := 38) d140_27 rfl (fun c_27 => ?_) (fun c_27 => ?_) | refine pm_if_eqN (tgt := 38) d140_27 rfl (by omega) (fun c_27 => ?_) (fun c_27 => ?_) | refine pm_if_eq (tgt := 38) d140_27 rfl (fun c_27 => ?_) (fun c_27 => ?_)
            · refine pm_iconst (v := nI 1) d140_38 (by decide) ?_
              refine pm_goto (tgt := 43) d140_39 rfl ?_
              first | refine pm_iaddN d140_43 ?_ | refine pm_iadd d140_43 ?_
              refine pm_istore_n (i := 2) (L2 := [(0, _), (1, _), (2, _), (3, _)]) d140_44 rfl (by decide) rfl ?_
              first | refine pm_iincN 1 (L2 := [(0, _), (1, _), (2, _), (3, _)]) d140_45 rfl (by decide) rfl ?_ | refine pm_iinc (L2 := [(0, _), (1, _), (2, _), (3, _)]) d140_45 rfl rfl (by decide) rfl ?_
              refine pm_goto (tgt := 4) d140_48 rfl ?_
              have := ih c_9
              rw [cnt_t (hpi.trans c_23)] at this
              exact this
            · omega
    · simp only [show Nat.beq 1 2 = false from rfl, show Nat.beq 1 0 = false from rfl, Bool.false_or] at hpi
      refine pm_iload_n (i := 3) d140_4 rfl rfl ?_
      refine pm_aload_n (i := 0) d140_5 rfl rfl ?_
      refine pm_getE d140_6 lf_11_90 rfl rfl (MI_ns hI) ?_
      first | refine pm_icmp_geN (tgt := 51) d140_9 rfl (by omega) (by omega) (fun c_9 => ?_) (fun c_9 => ?_) | refine pm_icmp_ge (tgt := 51) d140_9 rfl (fun c_9 => ?_) (fun c_9 => ?_)
      · refine pm_iload_n (i := 2) d140_51 rfl rfl ?_
        refine pm_iret d140_52 rfl (by first | rfl | exact nar_b _) ?_
        rw [show i = ns (sF s) by omega]
        exact h
      · refine pm_iload_n (i := 2) d140_12 rfl rfl ?_
        refine pm_iload_n (i := 1) d140_13 rfl rfl ?_
        refine pm_iconst (v := nI 2) d140_14 (by decide) ?_
        first | refine pm_icmp_eqN (tgt := 26) d140_15 rfl (by omega) (by omega) (fun c_15 => ?_) (fun c_15 => ?_) | refine pm_icmp_eq (tgt := 26) d140_15 rfl (fun c_15 => ?_) (fun c_15 => ?_)
        · omega
        · refine pm_aload_n (i := 0) d140_18 rfl rfl ?_
          refine pm_iload_n (i := 3) d140_19 rfl rfl ?_
          refine pm_callV (k2 := 134) (As := [_]) d140_20 lk_11_166 ok_134 rfl rfl rfl (Nat.le_of_ble_eq_true rfl) rfl rfl rfl rfl rfl ⟨Nat.le_of_ble_eq_true rfl, Nat.le_of_ble_eq_true rfl⟩ (Nat.le_of_ble_eq_true rfl) ?_
          refine sp_134 hI c_9 ?_
          first | refine pm_if_eqB (tgt := 42) d140_23 rfl (fun c_23 => ?_) (fun c_23 => ?_) | refine pm_if_eqN (tgt := 42) d140_23 rfl (by omega) (fun c_23 => ?_) (fun c_23 => ?_) | refine pm_if_eq (tgt := 42) d140_23 rfl (fun c_23 => ?_) (fun c_23 => ?_)
          · refine pm_iconst (v := nI 0) d140_42 (by decide) ?_
            first | refine pm_iaddN d140_43 ?_ | refine pm_iadd d140_43 ?_
            refine pm_istore_n (i := 2) (L2 := [(0, _), (1, _), (2, _), (3, _)]) d140_44 rfl (by decide) rfl ?_
            first | refine pm_iincN 1 (L2 := [(0, _), (1, _), (2, _), (3, _)]) d140_45 rfl (by decide) rfl ?_ | refine pm_iinc (L2 := [(0, _), (1, _), (2, _), (3, _)]) d140_45 rfl rfl (by decide) rfl ?_
            refine pm_goto (tgt := 4) d140_48 rfl ?_
            have := ih c_9
            rw [cnt_f (by rw [hpi, c_23, Bool.false_and])] at this
            exact this
          · refine pm_iload_n (i := 1) d140_26 rfl rfl ?_
            first | refine pm_if_eqB (tgt := 38) d140_27 rfl (fun c_27 => ?_) (fun c_27 => ?_) | refine pm_if_eqN (tgt := 38) d140_27 rfl (by omega) (fun c_27 => ?_) (fun c_27 => ?_) | refine pm_if_eq (tgt := 38) d140_27 rfl (fun c_27 => ?_) (fun c_27 => ?_)
            · omega
            · refine pm_aload_n (i := 0) d140_30 rfl rfl ?_
              refine pm_iload_n (i := 3) d140_31 rfl rfl ?_
              refine pm_callV (k2 := 135) (As := [_]) d140_32 lk_11_163 ok_135 rfl rfl rfl (Nat.le_of_ble_eq_true rfl) rfl rfl rfl rfl rfl ⟨Nat.le_of_ble_eq_true rfl, Nat.le_of_ble_eq_true rfl⟩ (Nat.le_of_ble_eq_true rfl) ?_
              refine sp_135 hI (by omega) ?_
              first | refine pm_if_eqB (tgt := 42) d140_35 rfl (fun c_35 => ?_) (fun c_35 => ?_) | refine pm_if_eqN (tgt := 42) d140_35 rfl (by omega) (fun c_35 => ?_) (fun c_35 => ?_) | refine pm_if_eq (tgt := 42) d140_35 rfl (fun c_35 => ?_) (fun c_35 => ?_)
              · refine pm_iconst (v := nI 0) d140_42 (by decide) ?_
                first | refine pm_iaddN d140_43 ?_ | refine pm_iadd d140_43 ?_
                refine pm_istore_n (i := 2) (L2 := [(0, _), (1, _), (2, _), (3, _)]) d140_44 rfl (by decide) rfl ?_
                first | refine pm_iincN 1 (L2 := [(0, _), (1, _), (2, _), (3, _)]) d140_45 rfl (by decide) rfl ?_ | refine pm_iinc (L2 := [(0, _), (1, _), (2, _), (3, _)]) d140_45 rfl rfl (by decide) rfl ?_
                refine pm_goto (tgt := 4) d140_48 rfl ?_
                have := ih c_9
                rw [cnt_f (by rw [hpi, c_35, Bool.and_false])] at this
                exact this
              · refine pm_iconst (v := nI 1) d140_38 (by decide) ?_
                refine pm_goto (tgt := 43) d140_39 rfl ?_
                first | refine pm_iaddN d140_43 ?_ | refine pm_iadd d140_43 ?_
                refine pm_istore_n (i := 2) (L2 := [(0, _), (1, _), (2, _), (3, _)]) d140_44 rfl (by decide) rfl ?_
                first | refine pm_iincN 1 (L2 := [(0, _), (1, _), (2, _), (3, _)]) d140_45 rfl (by decide) rfl ?_ | refine pm_iinc (L2 := [(0, _), (1, _), (2, _), (3, _)]) d140_45 rfl rfl (by decide) rfl ?_
                refine pm_goto (tgt := 4) d140_48 rfl ?_
                have := ih c_9
                rw [cnt_t (by rw [hpi, c_23, c_35]; rfl)] at this
                exact this
    · simp only [show Nat.beq 2 2 = true from rfl, show Nat.beq 2 0 = false from rfl, Bool.false_or, Bool.true_or, Bool.true_and] at hpi
      refine pm_iload_n (i := 3) d140_4 rfl rfl ?_
      refine pm_aload_n (i := 0) d140_5 rfl rfl ?_
      refine pm_getE d140_6 lf_11_90 rfl rfl (MI_ns hI) ?_
      first | refine pm_icmp_geN (tgt := 51) d140_9 rfl (by omega) (by omega) (fun c_9 => ?_) (fun c_9 => ?_) | refine pm_icmp_ge (tgt := 51) d140_9 rfl (fun c_9 => ?_) (fun c_9 => ?_)
      · refine pm_iload_n (i := 2) d140_51 rfl rfl ?_
        refine pm_iret d140_52 rfl (by first | rfl | exact nar_b _) ?_
        rw [show i = ns (sF s) by omega]
        exact h
      · refine pm_iload_n (i := 2) d140_12 rfl rfl ?_
        refine pm_iload_n (i := 1) d140_13 rfl rfl ?_
        refine pm_iconst (v := nI 2) d140_14 (by decide) ?_
        first | refine pm_icmp_eqN (tgt := 26) d140_15 rfl (by omega) (by omega) (fun c_15 => ?_) (fun c_15 => ?_) | refine pm_icmp_eq (tgt := 26) d140_15 rfl (fun c_15 => ?_) (fun c_15 => ?_)
        · refine pm_iload_n (i := 1) d140_26 rfl rfl ?_
          first | refine pm_if_eqB (tgt := 38) d140_27 rfl (fun c_27 => ?_) (fun c_27 => ?_) | refine pm_if_eqN (tgt := 38) d140_27 rfl (by omega) (fun c_27 => ?_) (fun c_27 => ?_) | refine pm_if_eq (tgt := 38) d140_27 rfl (fun c_27 => ?_) (fun c_27 => ?_)
          · omega
          · refine pm_aload_n (i := 0) d140_30 rfl rfl ?_
            refine pm_iload_n (i := 3) d140_31 rfl rfl ?_
            refine pm_callV (k2 := 135) (As := [_]) d140_32 lk_11_163 ok_135 rfl rfl rfl (Nat.le_of_ble_eq_true rfl) rfl rfl rfl rfl rfl ⟨Nat.le_of_ble_eq_true rfl, Nat.le_of_ble_eq_true rfl⟩ (Nat.le_of_ble_eq_true rfl) ?_
            refine sp_135 hI (by omega) ?_
            first | refine pm_if_eqB (tgt := 42) d140_35 rfl (fun c_35 => ?_) (fun c_35 => ?_) | refine pm_if_eqN (tgt := 42) d140_35 rfl (by omega) (fun c_35 => ?_) (fun c_35 => ?_) | refine pm_if_eq (tgt := 42) d140_35 rfl (fun c_35 => ?_) (fun c_35 => ?_)
            · refine pm_iconst (v := nI 0) d140_42 (by decide) ?_
              first | refine pm_iaddN d140_43 ?_ | refine pm_iadd d140_43 ?_
              refine pm_istore_n (i := 2) (L2 := [(0, _), (1, _), (2, _), (3, _)]) d140_44 rfl (by decide) rfl ?_
              first | refine pm_iincN 1 (L2 := [(0, _), (1, _), (2, _), (3, _)]) d140_45 rfl (by decide) rfl ?_ | refine pm_iinc (L2 := [(0, _), (1, _), (2, _), (3, _)]) d140_45 rfl rfl (by decide) rfl ?_
              refine pm_goto (tgt := 4) d140_48 rfl ?_
              have := ih c_9
              rw [cnt_f (hpi.trans c_35)] at this
              exact this
            · refine pm_iconst (v := nI 1) d140_38 (by decide) ?_
              refine pm_goto (tgt := 43) d140_39 rfl ?_
              first | refine pm_iaddN d140_43 ?_ | refine pm_iadd d140_43 ?_
              refine pm_istore_n (i := 2) (L2 := [(0, _), (1, _), (2, _), (3, _)]) d140_44 rfl (by decide) rfl ?_
              first | refine pm_iincN 1 (L2 := [(0, _), (1, _), (2, _), (3, _)]) d140_45 rfl (by decide) rfl ?_ | refine pm_iinc (L2 := [(0, _), (1, _), (2, _), (3, _)]) d140_45 rfl rfl (by decide) rfl ?_
              refine pm_goto (tgt := 4) d140_48 rfl ?_
              have := ih c_9
              rw [cnt_t (hpi.trans c_35)] at this
              exact this
        · omega
  refine pm_iconst (v := nI 0) d140_0 (by decide) ?_
  refine pm_istore_n (i := 2) (L2 := [(0, _), (1, _), (2, _)]) d140_1 rfl (by decide) rfl ?_
  refine pm_iconst (v := nI 0) d140_2 (by decide) ?_
  refine pm_istore_n (i := 3) (L2 := [(0, _), (1, _), (2, _), (3, _)]) d140_3 rfl (by decide) rfl ?_
  exact lp 0 (Nat.zero_le _)
theorem sp_141 {s : Stt} {A : Mem} {Q : Int32 → Mem → Prop} {b : Bool} (hI : MI s A) (h : Q (nI (cnt (fun k => kf s k && (!b || hf9 s k)) (nf (sF s)))) A) : pm_P 141 0 [(0, .ref 0), (1, .int (b2i b))] [] A Q := by
  have hb := MI_bd hI
  generalize hp : (fun k => kf s k && (!b || hf9 s k)) = p at h
  have hp : ∀ k, p k = (kf s k && (!b || hf9 s k)) := fun k => by rw [← hp]
  have lp : ∀ i, i ≤ nf (sF s) → pm_P 141 4 [(0, .ref 0), (1, .int (b2i b)), (2, .int (nI (cnt p i))), (3, .int (nI i))] [] A Q := by
    refine up_ind (fun i hi9 ih => ?_)
    have hpi := hp i
    refine pm_iload_n (i := 3) d141_4 rfl rfl ?_
    refine pm_aload_n (i := 0) d141_5 rfl rfl ?_
    refine pm_getE d141_6 lf_11_97 rfl rfl (MI_nf hI) ?_
    first | refine pm_icmp_geN (tgt := 46) d141_9 rfl (by omega) (by omega) (fun c_9 => ?_) (fun c_9 => ?_) | refine pm_icmp_ge (tgt := 46) d141_9 rfl (fun c_9 => ?_) (fun c_9 => ?_)
    · refine pm_iload_n (i := 2) d141_46 rfl rfl ?_
      refine pm_iret d141_47 rfl (by first | rfl | exact nar_b _) ?_
      rw [show i = nf (sF s) by omega]
      exact h
    · refine pm_iload_n (i := 2) d141_12 rfl rfl ?_
      refine pm_aload_n (i := 0) d141_13 rfl rfl ?_
      refine pm_iload_n (i := 3) d141_14 rfl rfl ?_
      refine pm_callV (k2 := 136) (As := [_]) d141_15 lk_11_157 ok_136 rfl rfl rfl (Nat.le_of_ble_eq_true rfl) rfl rfl rfl rfl rfl ⟨Nat.le_of_ble_eq_true rfl, Nat.le_of_ble_eq_true rfl⟩ (Nat.le_of_ble_eq_true rfl) ?_
      refine sp_136 hI c_9 ?_
      first | refine pm_if_eqB (tgt := 37) d141_18 rfl (fun c_18 => ?_) (fun c_18 => ?_) | refine pm_if_eqN (tgt := 37) d141_18 rfl (by omega) (fun c_18 => ?_) (fun c_18 => ?_) | refine pm_if_eq (tgt := 37) d141_18 rfl (fun c_18 => ?_) (fun c_18 => ?_)
      · refine pm_iconst (v := nI 0) d141_37 (by decide) ?_
        first | refine pm_iaddN d141_38 ?_ | refine pm_iadd d141_38 ?_
        refine pm_istore_n (i := 2) (L2 := [(0, _), (1, _), (2, _), (3, _)]) d141_39 rfl (by decide) rfl ?_
        first | refine pm_iincN 1 (L2 := [(0, _), (1, _), (2, _), (3, _)]) d141_40 rfl (by decide) rfl ?_ | refine pm_iinc (L2 := [(0, _), (1, _), (2, _), (3, _)]) d141_40 rfl rfl (by decide) rfl ?_
        refine pm_goto (tgt := 4) d141_43 rfl ?_
        have := ih c_9
        rw [cnt_f (by rw [hpi, c_18, Bool.false_and])] at this
        exact this
      · refine pm_iload_n (i := 1) d141_21 rfl rfl ?_
        first | refine pm_if_eqB (tgt := 33) d141_22 rfl (fun c_22 => ?_) (fun c_22 => ?_) | refine pm_if_eqN (tgt := 33) d141_22 rfl (by omega) (fun c_22 => ?_) (fun c_22 => ?_) | refine pm_if_eq (tgt := 33) d141_22 rfl (fun c_22 => ?_) (fun c_22 => ?_)
        · refine pm_iconst (v := nI 1) d141_33 (by decide) ?_
          refine pm_goto (tgt := 38) d141_34 rfl ?_
          first | refine pm_iaddN d141_38 ?_ | refine pm_iadd d141_38 ?_
          refine pm_istore_n (i := 2) (L2 := [(0, _), (1, _), (2, _), (3, _)]) d141_39 rfl (by decide) rfl ?_
          first | refine pm_iincN 1 (L2 := [(0, _), (1, _), (2, _), (3, _)]) d141_40 rfl (by decide) rfl ?_ | refine pm_iinc (L2 := [(0, _), (1, _), (2, _), (3, _)]) d141_40 rfl rfl (by decide) rfl ?_
          refine pm_goto (tgt := 4) d141_43 rfl ?_
          have := ih c_9
          rw [cnt_t (by rw [hpi, c_18, c_22]; rfl)] at this
          exact this
        · refine pm_aload_n (i := 0) d141_25 rfl rfl ?_
          refine pm_iload_n (i := 3) d141_26 rfl rfl ?_
          refine pm_callV (k2 := 138) (As := [_]) d141_27 lk_11_169 ok_138 rfl rfl rfl (Nat.le_of_ble_eq_true rfl) rfl rfl rfl rfl rfl ⟨Nat.le_of_ble_eq_true rfl, Nat.le_of_ble_eq_true rfl⟩ (Nat.le_of_ble_eq_true rfl) ?_
          refine sp_138 hI c_9 ?_
          first | refine pm_if_eqB (tgt := 37) d141_30 rfl (fun c_30 => ?_) (fun c_30 => ?_) | refine pm_if_eqN (tgt := 37) d141_30 rfl (by omega) (fun c_30 => ?_) (fun c_30 => ?_) | refine pm_if_eq (tgt := 37) d141_30 rfl (fun c_30 => ?_) (fun c_30 => ?_)
          · refine pm_iconst (v := nI 0) d141_37 (by decide) ?_
            first | refine pm_iaddN d141_38 ?_ | refine pm_iadd d141_38 ?_
            refine pm_istore_n (i := 2) (L2 := [(0, _), (1, _), (2, _), (3, _)]) d141_39 rfl (by decide) rfl ?_
            first | refine pm_iincN 1 (L2 := [(0, _), (1, _), (2, _), (3, _)]) d141_40 rfl (by decide) rfl ?_ | refine pm_iinc (L2 := [(0, _), (1, _), (2, _), (3, _)]) d141_40 rfl rfl (by decide) rfl ?_
            refine pm_goto (tgt := 4) d141_43 rfl ?_
            have := ih c_9
            rw [cnt_f (by rw [hpi, c_18, c_22, c_30]; rfl)] at this
            exact this
          · refine pm_iconst (v := nI 1) d141_33 (by decide) ?_
            refine pm_goto (tgt := 38) d141_34 rfl ?_
            first | refine pm_iaddN d141_38 ?_ | refine pm_iadd d141_38 ?_
            refine pm_istore_n (i := 2) (L2 := [(0, _), (1, _), (2, _), (3, _)]) d141_39 rfl (by decide) rfl ?_
            first | refine pm_iincN 1 (L2 := [(0, _), (1, _), (2, _), (3, _)]) d141_40 rfl (by decide) rfl ?_ | refine pm_iinc (L2 := [(0, _), (1, _), (2, _), (3, _)]) d141_40 rfl rfl (by decide) rfl ?_
            refine pm_goto (tgt := 4) d141_43 rfl ?_
            have := ih c_9
            rw [cnt_t (by rw [hpi, c_18, c_22, c_30]; rfl)] at this
            exact this
  refine pm_iconst (v := nI 0) d141_0 (by decide) ?_
  refine pm_istore_n (i := 2) (L2 := [(0, _), (1, _), (2, _)]) d141_1 rfl (by decide) rfl ?_
  refine pm_iconst (v := nI 0) d141_2 (by decide) ?_
  refine pm_istore_n (i := 3) (L2 := [(0, _), (1, _), (2, _), (3, _)]) d141_3 rfl (by decide) rfl ?_
  exact lp 0 (Nat.zero_le _)
theorem sp_144 {s : Stt} {A : Mem} {Q : Int32 → Mem → Prop} {v : Int32} (hI : MI s A) (h : Q (b2i (inN v (nh (sF s)))) A) : pm_P 144 0 [(0, .ref 0), (1, .int v)] [] A Q := by
  have hb := MI_bd hI
  refine pm_iload_n (i := 1) d144_0 rfl rfl ?_
  refine pm_iconst (v := nI 0) d144_1 (by decide) ?_
  refine pm_aload_n (i := 0) d144_2 rfl rfl ?_
  refine pm_getE d144_3 lf_11_76 rfl rfl (MI_nh hI) ?_
  refine pm_iconst (v := nI 1) d144_6 (by decide) ?_
  refine pm_isub d144_7 ?_
  refine pm_callS (k2 := 113) (As := [_, _, _]) d144_8 lk_11_130 ok_113 rfl rfl rfl (Nat.le_of_ble_eq_true rfl) rfl rfl ⟨Nat.le_of_ble_eq_true rfl, Nat.le_of_ble_eq_true rfl⟩ (Nat.le_of_ble_eq_true rfl) ?_
  refine sp_113 ?_
  refine pm_iret d144_11 rfl (by first | rfl | exact nar_b _) ?_
  exact h
theorem sp_155 {s : Stt} {A : Mem} {Q : Int32 → Mem → Prop} {v : Int32} (hI : MI s A) (h : Q (b2i (inN v (ns (sF s)))) A) : pm_P 155 0 [(0, .ref 0), (1, .int v)] [] A Q := by
  have hb := MI_bd hI
  refine pm_iload_n (i := 1) d155_0 rfl rfl ?_
  refine pm_iconst (v := nI 0) d155_1 (by decide) ?_
  refine pm_aload_n (i := 0) d155_2 rfl rfl ?_
  refine pm_getE d155_3 lf_11_90 rfl rfl (MI_ns hI) ?_
  refine pm_iconst (v := nI 1) d155_6 (by decide) ?_
  refine pm_isub d155_7 ?_
  refine pm_callS (k2 := 113) (As := [_, _, _]) d155_8 lk_11_130 ok_113 rfl rfl rfl (Nat.le_of_ble_eq_true rfl) rfl rfl ⟨Nat.le_of_ble_eq_true rfl, Nat.le_of_ble_eq_true rfl⟩ (Nat.le_of_ble_eq_true rfl) ?_
  refine sp_113 ?_
  refine pm_iret d155_11 rfl (by first | rfl | exact nar_b _) ?_
  exact h
theorem sp_149 {f : Nat} {A : Mem} {Q : Int32 → Mem → Prop} {x y z : Int32} (h1 : 1 ≤ f) (h6 : f ≤ 6) (hB : MH f A) (h : Q (opI (-1004) (fst (fdp f x y z) (nh f))) A) : pm_P 149 0 [(0, .ref 0), (1, .int x), (2, .int y), (3, .int z)] [] A Q := by
  have hb := bd_n h1 h6
  have lp : ∀ i, i ≤ nh f → fst (fdp f x y z) i = none → pm_P 149 3 [(0, .ref 0), (1, .int x), (2, .int y), (3, .int z), (4, .int (nI i))] [] A Q := by
    refine up_ind (fun i hi9 ih hz9 => ?_)
    refine pm_iload d149_3 rfl ?_
    refine pm_aload_n (i := 0) d149_5 rfl rfl ?_
    refine pm_getE d149_6 lf_11_76 rfl rfl (hB.1) ?_
    first | refine pm_icmp_geN (tgt := 54) d149_9 rfl (by omega) (by omega) (fun c_9 => ?_) (fun c_9 => ?_) | refine pm_icmp_ge (tgt := 54) d149_9 rfl (fun c_9 => ?_) (fun c_9 => ?_)
    · refine pm_sipush (v := -1004) d149_54 (by decide) ?_
      refine pm_iret d149_57 rfl (by first | rfl | exact nar_b _) ?_
      rw [show i = nh f by omega] at hz9
      rw [hz9] at h
      exact h
    · obtain ⟨x1, x2, x3⟩ := hB.2 i c_9 
      refine pm_aload_n (i := 0) d149_12 rfl rfl ?_
      refine pm_getR d149_13 lf_11_20 rfl rfl ?_
      refine pm_iload d149_16 rfl ?_
      refine pm_ialdN d149_18 rfl (by decide) (by omega) ?_
      rw [x1]
      refine pm_iload_n (i := 1) d149_19 rfl rfl ?_
      refine pm_icmp_ne (tgt := 48) d149_20 rfl (fun c_20 => ?_) (fun c_20 => ?_)
      · first | refine pm_iincN 1 (L2 := [(0, _), (1, _), (2, _), (3, _), (4, _)]) d149_48 rfl (by decide) rfl ?_ | refine pm_iinc (L2 := [(0, _), (1, _), (2, _), (3, _), (4, _)]) d149_48 rfl rfl (by decide) rfl ?_
        refine pm_goto (tgt := 3) d149_51 rfl ?_
        exact ih c_9 (fst_n hz9 (by unfold fdp; rw [decide_eq_false c_20, Bool.false_and]))
      · refine pm_aload_n (i := 0) d149_23 rfl rfl ?_
        refine pm_getR d149_24 lf_11_23 rfl rfl ?_
        refine pm_iload d149_27 rfl ?_
        refine pm_ialdN d149_29 rfl (by decide) (by omega) ?_
        rw [x2]
        refine pm_iload_n (i := 2) d149_30 rfl rfl ?_
        refine pm_icmp_ne (tgt := 48) d149_31 rfl (fun c_31 => ?_) (fun c_31 => ?_)
        · first | refine pm_iincN 1 (L2 := [(0, _), (1, _), (2, _), (3, _), (4, _)]) d149_48 rfl (by decide) rfl ?_ | refine pm_iinc (L2 := [(0, _), (1, _), (2, _), (3, _), (4, _)]) d149_48 rfl rfl (by decide) rfl ?_
          refine pm_goto (tgt := 3) d149_51 rfl ?_
          exact ih c_9 (fst_n hz9 (by unfold fdp; rw [decide_eq_false c_31, Bool.false_and, Bool.and_false]))
        · refine pm_aload_n (i := 0) d149_34 rfl rfl ?_
          refine pm_getR d149_35 lf_11_26 rfl rfl ?_
          refine pm_iload d149_38 rfl ?_
          refine pm_ialdN d149_40 rfl (by decide) (by omega) ?_
          rw [x3]
          refine pm_iload_n (i := 3) d149_41 rfl rfl ?_
          refine pm_icmp_ne (tgt := 48) d149_42 rfl (fun c_42 => ?_) (fun c_42 => ?_)
          · first | refine pm_iincN 1 (L2 := [(0, _), (1, _), (2, _), (3, _), (4, _)]) d149_48 rfl (by decide) rfl ?_ | refine pm_iinc (L2 := [(0, _), (1, _), (2, _), (3, _), (4, _)]) d149_48 rfl rfl (by decide) rfl ?_
            refine pm_goto (tgt := 3) d149_51 rfl ?_
            exact ih c_9 (fst_n hz9 (by unfold fdp; rw [decide_eq_false c_42, Bool.and_false, Bool.and_false]))
          · refine pm_iload d149_45 rfl ?_
            refine pm_iret d149_47 rfl (by first | rfl | exact nar_b _) ?_
            rw [fst_s hz9 (by unfold fdp; rw [decide_eq_true c_20, decide_eq_true c_31, decide_eq_true c_42]; rfl) c_9] at h
            exact h
  refine pm_iconst (v := nI 0) d149_0 (by decide) ?_
  refine pm_istore (L2 := [(0, _), (1, _), (2, _), (3, _), (4, _)]) d149_1 (by decide) rfl ?_
  exact lp 0 (Nat.zero_le _) rfl
theorem sp_161 {s : Stt} {A : Mem} {Q : Int32 → Mem → Prop} {i : Nat} (hI : MI s A) (hi9 : i < ns (sF s)) (h : Q (nI (clo s i)) A) : pm_P 161 0 [(0, .ref 0), (1, .int (nI i))] [] A Q := by
  have hb := MI_bd hI
  unfold clo at h
  have lp : ∀ k, k ≤ nf (sF s) → pm_P 161 4 [(0, .ref 0), (1, .int (nI i)), (2, .int (nI (cnt (clp s i) k))), (3, .int (nI k))] [] A Q := by
    refine up_ind (fun k hk ih => ?_)
    by_cases hlt : k < nf (sF s)
    · have b0 := (bd_f hI.1.1 hI.1.2.1 (i := 3 * k) (by omega)).2
      have b1 := (bd_f hI.1.1 hI.1.2.1 (i := 3 * k + 1) (by omega)).2
      have b2 := (bd_f hI.1.1 hI.1.2.1 (i := 3 * k + 2) (by omega)).2
      have k49 : ∀ b : Bool, b = (decide (sd (sF s) (3 * k) = i) || (decide (sd (sF s) (3 * k + 1) = i) || decide (sd (sF s) (3 * k + 2) = i))) → pm_P 161 49 [(0, .ref 0), (1, .int (nI i)), (2, .int (nI (cnt (clp s i) k))), (3, .int (nI k)), (4, .int (b2i b))] [] A Q := by
        intro b hb9
        have hc : clp s i k = (kf s k && !hf9 s k && b) := by
          unfold clp hf9
          rw [← hb9]
          cases e1 : kf s k
          · have : cf s k = false := by unfold cf; rw [e1]; rfl
            rw [this]; rfl
          · cases cf s k <;> rfl
        refine pm_iload_n (i := 2) d161_49 rfl rfl ?_
        refine pm_iload d161_50 rfl ?_
        first | refine pm_if_eqB (tgt := 75) d161_52 rfl (fun c_52 => ?_) (fun c_52 => ?_) | refine pm_if_eqN (tgt := 75) d161_52 rfl (by omega) (fun c_52 => ?_) (fun c_52 => ?_) | refine pm_if_eq (tgt := 75) d161_52 rfl (fun c_52 => ?_) (fun c_52 => ?_)
        · refine pm_iconst (v := nI 0) d161_75 (by decide) ?_
          first | refine pm_iaddN d161_76 ?_ | refine pm_iadd d161_76 ?_
          refine pm_istore_n (i := 2) (L2 := [(0, _), (1, _), (2, _), (3, _), (4, _)]) d161_77 rfl (by decide) rfl ?_
          first | refine pm_iincN 1 (L2 := [(0, _), (1, _), (2, _), (3, _), (4, _)]) d161_78 rfl (by decide) rfl ?_ | refine pm_iinc (L2 := [(0, _), (1, _), (2, _), (3, _), (4, _)]) d161_78 rfl rfl (by decide) rfl ?_
          refine pm_goto (tgt := 4) d161_81 rfl ?_
          refine pm_pick [0, 1, 2, 3] (L2 := [(0, _), (1, _), (2, _), (3, _)]) rfl ?_
          have := ih hlt
          rw [cnt_f (by rw [hc, c_52, Bool.and_false])] at this
          exact this
        · refine pm_aload_n (i := 0) d161_55 rfl rfl ?_
          refine pm_iload_n (i := 3) d161_56 rfl rfl ?_
          refine pm_callV (k2 := 136) (As := [_]) d161_57 lk_11_157 ok_136 rfl rfl rfl (Nat.le_of_ble_eq_true rfl) rfl rfl rfl rfl rfl ⟨Nat.le_of_ble_eq_true rfl, Nat.le_of_ble_eq_true rfl⟩ (Nat.le_of_ble_eq_true rfl) ?_
          refine sp_136 hI hlt ?_
          first | refine pm_if_eqB (tgt := 75) d161_60 rfl (fun c_60 => ?_) (fun c_60 => ?_) | refine pm_if_eqN (tgt := 75) d161_60 rfl (by omega) (fun c_60 => ?_) (fun c_60 => ?_) | refine pm_if_eq (tgt := 75) d161_60 rfl (fun c_60 => ?_) (fun c_60 => ?_)
          · refine pm_iconst (v := nI 0) d161_75 (by decide) ?_
            first | refine pm_iaddN d161_76 ?_ | refine pm_iadd d161_76 ?_
            refine pm_istore_n (i := 2) (L2 := [(0, _), (1, _), (2, _), (3, _), (4, _)]) d161_77 rfl (by decide) rfl ?_
            first | refine pm_iincN 1 (L2 := [(0, _), (1, _), (2, _), (3, _), (4, _)]) d161_78 rfl (by decide) rfl ?_ | refine pm_iinc (L2 := [(0, _), (1, _), (2, _), (3, _), (4, _)]) d161_78 rfl rfl (by decide) rfl ?_
            refine pm_goto (tgt := 4) d161_81 rfl ?_
            refine pm_pick [0, 1, 2, 3] (L2 := [(0, _), (1, _), (2, _), (3, _)]) rfl ?_
            have := ih hlt
            rw [cnt_f (by rw [hc, c_60]; rfl)] at this
            exact this
          · refine pm_aload_n (i := 0) d161_63 rfl rfl ?_
            refine pm_iload_n (i := 3) d161_64 rfl rfl ?_
            refine pm_callV (k2 := 138) (As := [_]) d161_65 lk_11_169 ok_138 rfl rfl rfl (Nat.le_of_ble_eq_true rfl) rfl rfl rfl rfl rfl ⟨Nat.le_of_ble_eq_true rfl, Nat.le_of_ble_eq_true rfl⟩ (Nat.le_of_ble_eq_true rfl) ?_
            refine sp_138 hI hlt ?_
            first | refine pm_if_neB (tgt := 75) d161_68 rfl (fun c_68 => ?_) (fun c_68 => ?_) | refine pm_if_neN (tgt := 75) d161_68 rfl (by omega) (fun c_68 => ?_) (fun c_68 => ?_) | refine pm_if_ne (tgt := 75) d161_68 rfl (fun c_68 => ?_) (fun c_68 => ?_)
            · refine pm_iconst (v := nI 0) d161_75 (by decide) ?_
              first | refine pm_iaddN d161_76 ?_ | refine pm_iadd d161_76 ?_
              refine pm_istore_n (i := 2) (L2 := [(0, _), (1, _), (2, _), (3, _), (4, _)]) d161_77 rfl (by decide) rfl ?_
              first | refine pm_iincN 1 (L2 := [(0, _), (1, _), (2, _), (3, _), (4, _)]) d161_78 rfl (by decide) rfl ?_ | refine pm_iinc (L2 := [(0, _), (1, _), (2, _), (3, _), (4, _)]) d161_78 rfl rfl (by decide) rfl ?_
              refine pm_goto (tgt := 4) d161_81 rfl ?_
              refine pm_pick [0, 1, 2, 3] (L2 := [(0, _), (1, _), (2, _), (3, _)]) rfl ?_
              have := ih hlt
              rw [cnt_f (by rw [hc, c_60, c_68]; rfl)] at this
              exact this
            · refine pm_iconst (v := nI 1) d161_71 (by decide) ?_
              refine pm_goto (tgt := 76) d161_72 rfl ?_
              first | refine pm_iaddN d161_76 ?_ | refine pm_iadd d161_76 ?_
              refine pm_istore_n (i := 2) (L2 := [(0, _), (1, _), (2, _), (3, _), (4, _)]) d161_77 rfl (by decide) rfl ?_
              first | refine pm_iincN 1 (L2 := [(0, _), (1, _), (2, _), (3, _), (4, _)]) d161_78 rfl (by decide) rfl ?_ | refine pm_iinc (L2 := [(0, _), (1, _), (2, _), (3, _), (4, _)]) d161_78 rfl rfl (by decide) rfl ?_
              refine pm_goto (tgt := 4) d161_81 rfl ?_
              refine pm_pick [0, 1, 2, 3] (L2 := [(0, _), (1, _), (2, _), (3, _)]) rfl ?_
              have := ih hlt
              rw [cnt_t (by rw [hc, c_52, c_60, c_68]; rfl)] at this
              exact this
      refine pm_iload_n (i := 3) d161_4 rfl rfl ?_
      refine pm_aload_n (i := 0) d161_5 rfl rfl ?_
      refine pm_getE d161_6 lf_11_97 rfl rfl (MI_nf hI) ?_
      first | refine pm_icmp_geN (tgt := 84) d161_9 rfl (by omega) (by omega) (fun c_9 => ?_) (fun c_9 => ?_) | refine pm_icmp_ge (tgt := 84) d161_9 rfl (fun c_9 => ?_) (fun c_9 => ?_)
      · omega
      · refine pm_aload_n (i := 0) d161_12 rfl rfl ?_
        refine pm_iload_n (i := 3) d161_13 rfl rfl ?_
        refine pm_iconst (v := nI 0) d161_14 (by decide) ?_
        refine pm_callV (k2 := 137) (As := [_, _]) d161_15 lk_11_160 ok_137 rfl rfl rfl (Nat.le_of_ble_eq_true rfl) rfl rfl rfl rfl rfl ⟨Nat.le_of_ble_eq_true rfl, Nat.le_of_ble_eq_true rfl⟩ (Nat.le_of_ble_eq_true rfl) ?_
        refine sp_137 (j := 0) hI hlt (by decide) ?_
        rw [show 3 * k + 0 = 3 * k from rfl]
        refine pm_iload_n (i := 1) d161_18 rfl rfl ?_
        first | refine pm_icmp_eqN (tgt := 42) d161_19 rfl (by omega) (by omega) (fun c_19 => ?_) (fun c_19 => ?_) | refine pm_icmp_eq (tgt := 42) d161_19 rfl (fun c_19 => ?_) (fun c_19 => ?_)
        · refine pm_iconst (v := nI 1) d161_42 (by decide) ?_
          refine pm_goto (tgt := 47) d161_43 rfl ?_
          refine pm_istore (L2 := [(0, _), (1, _), (2, _), (3, _), (4, _)]) d161_47 (by decide) rfl ?_
          exact k49 true (by rw [decide_eq_true c_19]; rfl)
        · refine pm_aload_n (i := 0) d161_22 rfl rfl ?_
          refine pm_iload_n (i := 3) d161_23 rfl rfl ?_
          refine pm_iconst (v := nI 1) d161_24 (by decide) ?_
          refine pm_callV (k2 := 137) (As := [_, _]) d161_25 lk_11_160 ok_137 rfl rfl rfl (Nat.le_of_ble_eq_true rfl) rfl rfl rfl rfl rfl ⟨Nat.le_of_ble_eq_true rfl, Nat.le_of_ble_eq_true rfl⟩ (Nat.le_of_ble_eq_true rfl) ?_
          refine sp_137 (j := 1) hI hlt (by decide) ?_
          refine pm_iload_n (i := 1) d161_28 rfl rfl ?_
          first | refine pm_icmp_eqN (tgt := 42) d161_29 rfl (by omega) (by omega) (fun c_29 => ?_) (fun c_29 => ?_) | refine pm_icmp_eq (tgt := 42) d161_29 rfl (fun c_29 => ?_) (fun c_29 => ?_)
          · refine pm_iconst (v := nI 1) d161_42 (by decide) ?_
            refine pm_goto (tgt := 47) d161_43 rfl ?_
            refine pm_istore (L2 := [(0, _), (1, _), (2, _), (3, _), (4, _)]) d161_47 (by decide) rfl ?_
            exact k49 true (by rw [decide_eq_true c_29, Bool.true_or, Bool.or_true])
          · refine pm_aload_n (i := 0) d161_32 rfl rfl ?_
            refine pm_iload_n (i := 3) d161_33 rfl rfl ?_
            refine pm_iconst (v := nI 2) d161_34 (by decide) ?_
            refine pm_callV (k2 := 137) (As := [_, _]) d161_35 lk_11_160 ok_137 rfl rfl rfl (Nat.le_of_ble_eq_true rfl) rfl rfl rfl rfl rfl ⟨Nat.le_of_ble_eq_true rfl, Nat.le_of_ble_eq_true rfl⟩ (Nat.le_of_ble_eq_true rfl) ?_
            refine sp_137 (j := 2) hI hlt (by decide) ?_
            refine pm_iload_n (i := 1) d161_38 rfl rfl ?_
            first | refine pm_icmp_neN (tgt := 46) d161_39 rfl (by omega) (by omega) (fun c_39 => ?_) (fun c_39 => ?_) | refine pm_icmp_ne (tgt := 46) d161_39 rfl (fun c_39 => ?_) (fun c_39 => ?_)
            · refine pm_iconst (v := nI 0) d161_46 (by decide) ?_
              refine pm_istore (L2 := [(0, _), (1, _), (2, _), (3, _), (4, _)]) d161_47 (by decide) rfl ?_
              exact k49 false (by rw [decide_eq_false c_19, decide_eq_false c_29, decide_eq_false c_39]; rfl)
            · refine pm_iconst (v := nI 1) d161_42 (by decide) ?_
              refine pm_goto (tgt := 47) d161_43 rfl ?_
              refine pm_istore (L2 := [(0, _), (1, _), (2, _), (3, _), (4, _)]) d161_47 (by decide) rfl ?_
              exact k49 true (by rw [decide_eq_true c_39, Bool.or_true, Bool.or_true])
    · skip
      refine pm_iload_n (i := 3) d161_4 rfl rfl ?_
      refine pm_aload_n (i := 0) d161_5 rfl rfl ?_
      refine pm_getE d161_6 lf_11_97 rfl rfl (MI_nf hI) ?_
      first | refine pm_icmp_geN (tgt := 84) d161_9 rfl (by omega) (by omega) (fun c_9 => ?_) (fun c_9 => ?_) | refine pm_icmp_ge (tgt := 84) d161_9 rfl (fun c_9 => ?_) (fun c_9 => ?_)
      · refine pm_iload_n (i := 2) d161_84 rfl rfl ?_
        refine pm_iret d161_85 rfl (by first | rfl | exact nar_b _) ?_
        rw [show k = nf (sF s) by omega]
        exact h
      · omega
  refine pm_iconst (v := nI 0) d161_0 (by decide) ?_
  refine pm_istore_n (i := 2) (L2 := [(0, _), (1, _), (2, _)]) d161_1 rfl (by decide) rfl ?_
  refine pm_iconst (v := nI 0) d161_2 (by decide) ?_
  refine pm_istore_n (i := 3) (L2 := [(0, _), (1, _), (2, _), (3, _)]) d161_3 rfl (by decide) rfl ?_
  exact lp 0 (Nat.zero_le _)
