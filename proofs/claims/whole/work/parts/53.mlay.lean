/-! HOW THE REFERENCE LAYS ITS HUBS AND STRUTS -/
def ab9 (f t : Nat) : Nat := (t - f) + (f - t)
def vH (f i j l : Nat) : Bool := Nat.beq (ab9 f l + ab9 f j + ab9 f i) f
/-- how many hubs lie ahead of layer i, depth j, place l -/
def nH (f i j l : Nat) : Nat := ofl f i + inl9 (wd f i) (j - (f - wd f i)) + (if ab9 f j ≤ wd f i then (if f - (wd f i - ab9 f j) < l then 1 else 0) + (if 0 < wd f i - ab9 f j ∧ f + (wd f i - ab9 f j) < l then 1 else 0) else 0)
theorem tk_nh : allF (fun f => Nat.beq (nH f 0 0 0) 0 && (Nat.beq (nH f (2 * f + 1) 0 0) (nh f) && allN (2 * f + 1) (fun i => Nat.beq (nH f i (2 * f + 1) 0) (nH f (i + 1) 0 0) && allN (2 * f + 1) (fun j => Nat.beq (nH f i j (2 * f + 1)) (nH f i (j + 1) 0) && allN (2 * f + 1) (fun l => cond (vH f i j l) (Nat.blt (nH f i j l) (nh f) && (decide (hx f (nH f i j l) = hD f l) && (decide (hy f (nH f i j l) = hD f j) && (decide (hz f (nH f i j l) = hH f i) && Nat.beq (nH f i j (l + 1)) (nH f i j l + 1))))) (Nat.beq (nH f i j (l + 1)) (nH f i j l))))))) = true := by decide +kernel
theorem bd_nh {f : Nat} (h1 : 1 ≤ f) (h6 : f ≤ 6) : nH f 0 0 0 = 0 ∧ nH f (2 * f + 1) 0 0 = nh f ∧ ∀ i, i < 2 * f + 1 → nH f i (2 * f + 1) 0 = nH f (i + 1) 0 0 ∧ ∀ j, j < 2 * f + 1 → nH f i j (2 * f + 1) = nH f i (j + 1) 0 ∧ ∀ l, l < 2 * f + 1 → (vH f i j l = true → nH f i j l < nh f ∧ hx f (nH f i j l) = hD f l ∧ hy f (nH f i j l) = hD f j ∧ hz f (nH f i j l) = hH f i ∧ nH f i j (l + 1) = nH f i j l + 1) ∧ (vH f i j l = false → nH f i j (l + 1) = nH f i j l) := by
  have h0 := allF_of tk_nh h1 h6
  simp only [Bool.and_eq_true, Nat.beq_eq] at h0
  refine ⟨h0.1, h0.2.1, fun i hi9 => ?_⟩
  have h2 := allN_of h0.2.2 hi9
  simp only [Bool.and_eq_true, Nat.beq_eq] at h2
  refine ⟨h2.1, fun j hj => ?_⟩
  have h3 := allN_of h2.2 hj
  simp only [Bool.and_eq_true, Nat.beq_eq] at h3
  refine ⟨h3.1, fun l hl9 => ?_⟩
  have h4 := allN_of h3.2 hl9
  cases e : vH f i j l with
  | true =>
    rw [e] at h4
    simp only [cond, Bool.and_eq_true, Nat.beq_eq, Nat.blt_eq, decide_eq_true_eq] at h4
    exact ⟨fun _ => h4, fun q => (by cases q)⟩
  | false =>
    rw [e] at h4
    simp only [cond, Nat.beq_eq] at h4
    exact ⟨fun q => (by cases q), fun _ => h4⟩
theorem tk_ab : ∀ f, f < 7 → ∀ t, t < 14 → isz (hD f t) = nI (ab9 f t) ∧ isz (hH f t) = nI (ab9 f t) ∧ ab9 f t ≤ 14 := by decide +kernel
/-- the first n hubs stand in the reference -/
def MHn (f n : Nat) (A : Mem) : Prop := A 0 6 = nI n ∧ ∀ a, a < n → A 4 a = hx f a ∧ A 5 a = hy f a ∧ A 6 a = hz f a
theorem MHn_add {f n : Nat} {A : Mem} (h : MHn f n A) : MHn f (n + 1) (mset (mset (mset (mset A 4 n (hx f n)) 5 n (hy f n)) 6 n (hz f n)) 0 6 (nI (n + 1))) := by
  obtain ⟨h2, h3⟩ := h
  refine ⟨by simp [mset_get], fun a ha => ?_⟩
  by_cases e : a = n
  · subst e
    simp [mset_get]
  · have := h3 a (by omega)
    simp [mset_get, e, this]
theorem sp_117 {f : Nat} {A : Mem} {Q : Int32 → Mem → Prop} (h1 : 1 ≤ f) (h6 : f ≤ 6) (h : ∀ A2 : Mem, (∀ c, c ≠ 0 → c ≠ 4 → c ≠ 5 → c ≠ 6 → A2 c = A c) → (∀ j, j ≠ 6 → A2 0 j = A 0 j) → MH f A2 → Q 0 A2) : pm_P 117 0 [(0, .ref 0), (1, .int (nI f))] [] A Q := by
  have hb := bd_n h1 h6
  obtain ⟨n0, nn, ns9⟩ := bd_nh h1 h6
  have outer : ∀ i, i ≤ 2 * f + 1 → ∀ A1 : Mem, (∀ c, c ≠ 0 → c ≠ 4 → c ≠ 5 → c ≠ 6 → A1 c = A c) → (∀ j, j ≠ 6 → A1 0 j = A 0 j) → MHn f (nH f i 0 0) A1 → pm_P 117 7 [(0, .ref 0), (1, .int (nI f)), (2, .int (hH f i))] [] A1 Q := by
    refine up_ind (fun i hi9 ih A1 g1 g0 g2 => ?_)
    obtain ⟨t1, t2, t3⟩ := tk_h f (by omega) i (by omega)
    by_cases hlt : i < 2 * f + 1
    · obtain ⟨u1, u2, u3⟩ := t1 (by omega)
      obtain ⟨m1, m2⟩ := ns9 i hlt
      have mid : ∀ j, j ≤ 2 * f + 1 → ∀ A1 : Mem, (∀ c, c ≠ 0 → c ≠ 4 → c ≠ 5 → c ≠ 6 → A1 c = A c) → (∀ j, j ≠ 6 → A1 0 j = A 0 j) → MHn f (nH f i j 0) A1 → pm_P 117 16 [(0, .ref 0), (1, .int (nI f)), (2, .int (hH f i)), (3, .int (hD f j))] [] A1 Q := by
        refine up_ind (fun j hj ih2 A1 g1 g0 g2 => ?_)
        obtain ⟨w1, w2, w3⟩ := tk_w f (by omega) j (by omega)
        by_cases hlt2 : j < 2 * f + 1
        · obtain ⟨v1, -, -⟩ := w1 (by omega)
          obtain ⟨o1, o2⟩ := m2 j hlt2
          have inner : ∀ l, l ≤ 2 * f + 1 → ∀ A1 : Mem, (∀ c, c ≠ 0 → c ≠ 4 → c ≠ 5 → c ≠ 6 → A1 c = A c) → (∀ j, j ≠ 6 → A1 0 j = A 0 j) → MHn f (nH f i j l) A1 → pm_P 117 25 [(0, .ref 0), (1, .int (nI f)), (2, .int (hH f i)), (3, .int (hD f j)), (4, .int (hD f l))] [] A1 Q := by
            refine up_ind (fun l hl9 ih3 A1 g1 g0 g2 => ?_)
            obtain ⟨x1, x2, x3⟩ := tk_w f (by omega) l (by omega)
            obtain ⟨a1, -, a3⟩ := tk_ab f (by omega) l (by omega)
            obtain ⟨b1, -, b3⟩ := tk_ab f (by omega) j (by omega)
            obtain ⟨-, c1, c3⟩ := tk_ab f (by omega) i (by omega)
            by_cases hlt3 : l < 2 * f + 1
            · obtain ⟨y1, -, -⟩ := x1 (by omega)
              obtain ⟨p1, p2⟩ := o2 l hlt3
              refine pm_iload d117_25 rfl ?_
              refine pm_iload_n (i := 1) d117_27 rfl rfl ?_
              refine pm_icmp_gt (tgt := 97) d117_28 rfl (fun c_28 => ?_) (fun c_28 => ?_)
              · exact absurd c_28 y1
              · refine pm_iload d117_31 rfl ?_
                refine pm_callS (k2 := 114) (As := [_]) d117_33 lk_11_79 ok_114 rfl rfl rfl (Nat.le_of_ble_eq_true rfl) rfl rfl ⟨Nat.le_of_ble_eq_true rfl, Nat.le_of_ble_eq_true rfl⟩ (Nat.le_of_ble_eq_true rfl) ?_
                refine sp_114 ?_
                rw [a1]
                refine pm_iload_n (i := 3) d117_36 rfl rfl ?_
                refine pm_callS (k2 := 114) (As := [_]) d117_37 lk_11_79 ok_114 rfl rfl rfl (Nat.le_of_ble_eq_true rfl) rfl rfl ⟨Nat.le_of_ble_eq_true rfl, Nat.le_of_ble_eq_true rfl⟩ (Nat.le_of_ble_eq_true rfl) ?_
                refine sp_114 ?_
                rw [b1]
                first | refine pm_iaddN d117_40 ?_ | refine pm_iadd d117_40 ?_
                refine pm_iload_n (i := 2) d117_41 rfl rfl ?_
                refine pm_callS (k2 := 114) (As := [_]) d117_42 lk_11_79 ok_114 rfl rfl rfl (Nat.le_of_ble_eq_true rfl) rfl rfl ⟨Nat.le_of_ble_eq_true rfl, Nat.le_of_ble_eq_true rfl⟩ (Nat.le_of_ble_eq_true rfl) ?_
                refine sp_114 ?_
                rw [c1]
                first | refine pm_iaddN d117_45 ?_ | refine pm_iadd d117_45 ?_
                refine pm_iload_n (i := 1) d117_46 rfl rfl ?_
                first | refine pm_icmp_neN (tgt := 91) d117_47 rfl (by omega) (by omega) (fun c_47 => ?_) (fun c_47 => ?_) | refine pm_icmp_ne (tgt := 91) d117_47 rfl (fun c_47 => ?_) (fun c_47 => ?_)
                · refine pm_iinc (L2 := [(0, _), (1, _), (2, _), (3, _), (4, _)]) d117_91 rfl x3 (by decide) rfl ?_
                  refine pm_goto (tgt := 25) d117_94 rfl ?_
                  have hv : vH f i j l = false := by
                    unfold vH
                    rw [← Bool.not_eq_true, Nat.beq_eq]
                    exact c_47
                  exact ih3 hlt3 A1 g1 g0 (by rw [p2 hv]; exact g2)
                · have hv : vH f i j l = true := by unfold vH; rw [Nat.beq_eq]; exact c_47
                  obtain ⟨z1, z2, z3, z4, z5⟩ := p1 hv 
                  refine pm_aload_n (i := 0) d117_50 rfl rfl ?_
                  refine pm_getR d117_51 lf_11_20 rfl rfl ?_
                  refine pm_aload_n (i := 0) d117_54 rfl rfl ?_
                  refine pm_getE (v := nI (nH f i j l)) d117_55 lf_11_76 rfl rfl (by simp [mset_get, g2.1]) ?_
                  refine pm_iload d117_58 rfl ?_
                  refine pm_iastN d117_60 rfl (by decide) (by omega) ?_
                  refine pm_aload_n (i := 0) d117_61 rfl rfl ?_
                  refine pm_getR d117_62 lf_11_23 rfl rfl ?_
                  refine pm_aload_n (i := 0) d117_65 rfl rfl ?_
                  refine pm_getE (v := nI (nH f i j l)) d117_66 lf_11_76 rfl rfl (by simp [mset_get, g2.1]) ?_
                  refine pm_iload_n (i := 3) d117_69 rfl rfl ?_
                  refine pm_iastN d117_70 rfl (by decide) (by omega) ?_
                  refine pm_aload_n (i := 0) d117_71 rfl rfl ?_
                  refine pm_getR d117_72 lf_11_26 rfl rfl ?_
                  refine pm_aload_n (i := 0) d117_75 rfl rfl ?_
                  refine pm_getE (v := nI (nH f i j l)) d117_76 lf_11_76 rfl rfl (by simp [mset_get, g2.1]) ?_
                  refine pm_iload_n (i := 2) d117_79 rfl rfl ?_
                  refine pm_iastN d117_80 rfl (by decide) (by omega) ?_
                  refine pm_aload_n (i := 0) d117_81 rfl rfl ?_
                  refine pm_dup d117_82 rfl ?_
                  refine pm_getE (v := nI (nH f i j l)) d117_83 lf_11_76 rfl rfl (by simp [mset_get, g2.1]) ?_
                  refine pm_iconst (v := nI 1) d117_86 (by decide) ?_
                  first | refine pm_iaddN d117_87 ?_ | refine pm_iadd d117_87 ?_
                  refine pm_putI d117_88 lp_11_76 rfl rfl ?_
                  refine pm_iinc (L2 := [(0, _), (1, _), (2, _), (3, _), (4, _)]) d117_91 rfl x3 (by decide) rfl ?_
                  refine pm_goto (tgt := 25) d117_94 rfl ?_
                  have g3 := MHn_add g2
                  rw [z2, z3, z4] at g3
                  refine ih3 hlt3 _ (fun c q1 q2 q3 q4 => by rw [mset_other q1, mset_other q4, mset_other q3, mset_other q2]; exact g1 c q1 q2 q3 q4) (fun j2 hj2 => by rw [mset_ne hj2, mset_other (by decide), mset_other (by decide), mset_other (by decide)]; exact g0 j2 hj2) ?_
                  rw [z5]
                  exact g3
            · have el : l = 2 * f + 1 := by omega
              have y4 := x2 el
              refine pm_iload d117_25 rfl ?_
              refine pm_iload_n (i := 1) d117_27 rfl rfl ?_
              refine pm_icmp_gt (tgt := 97) d117_28 rfl (fun c_28 => ?_) (fun c_28 => ?_)
              · refine pm_iinc (L2 := [(0, _), (1, _), (2, _), (3, _), (4, _)]) d117_97 rfl w3 (by decide) rfl ?_
                refine pm_goto (tgt := 16) d117_100 rfl ?_
                refine pm_pick [0, 1, 2, 3] (L2 := [(0, _), (1, _), (2, _), (3, _)]) rfl ?_
                refine ih2 hlt2 A1 g1 g0 ?_
                rw [← o1, ← el]
                exact g2
              · exact absurd y4 c_28
          refine pm_iload_n (i := 3) d117_16 rfl rfl ?_
          refine pm_iload_n (i := 1) d117_17 rfl rfl ?_
          refine pm_icmp_gt (tgt := 103) d117_18 rfl (fun c_18 => ?_) (fun c_18 => ?_)
          · exact absurd c_18 v1
          · refine pm_iload_n (i := 1) d117_21 rfl rfl ?_
            refine pm_ineg d117_22 ?_
            refine pm_istore (L2 := [(0, _), (1, _), (2, _), (3, _), (4, _)]) d117_23 (by decide) rfl ?_
            have hd0 : -nI f = hD f 0 := by
              unfold hD
              rw [show nI 0 = 0 from rfl, Int32.add_zero]
            rw [hd0]
            exact inner 0 (Nat.zero_le _) A1 g1 g0 g2
        · have ej : j = 2 * f + 1 := by omega
          have w4 := w2 ej
          refine pm_iload_n (i := 3) d117_16 rfl rfl ?_
          refine pm_iload_n (i := 1) d117_17 rfl rfl ?_
          refine pm_icmp_gt (tgt := 103) d117_18 rfl (fun c_18 => ?_) (fun c_18 => ?_)
          · refine pm_iinc (L2 := [(0, _), (1, _), (2, _), (3, _)]) d117_103 rfl t3 (by decide) rfl ?_
            refine pm_goto (tgt := 7) d117_106 rfl ?_
            refine pm_pick [0, 1, 2] (L2 := [(0, _), (1, _), (2, _)]) rfl ?_
            refine ih hlt A1 g1 g0 ?_
            rw [← m1, ← ej]
            exact g2
          · exact absurd w4 c_18
      refine pm_iload_n (i := 2) d117_7 rfl rfl ?_
      refine pm_iload_n (i := 1) d117_8 rfl rfl ?_
      refine pm_ineg d117_9 ?_
      refine pm_icmp_lt (tgt := 109) d117_10 rfl (fun c_10 => ?_) (fun c_10 => ?_)
      · exact absurd c_10 u1
      · refine pm_iload_n (i := 1) d117_13 rfl rfl ?_
        refine pm_ineg d117_14 ?_
        refine pm_istore_n (i := 3) (L2 := [(0, _), (1, _), (2, _), (3, _)]) d117_15 rfl (by decide) rfl ?_
        have hd0 : -nI f = hD f 0 := by
          unfold hD
          rw [show nI 0 = 0 from rfl, Int32.add_zero]
        rw [hd0]
        exact mid 0 (Nat.zero_le _) A1 g1 g0 g2
    · have ei : i = 2 * f + 1 := by omega
      have t4 := t2 ei
      refine pm_iload_n (i := 2) d117_7 rfl rfl ?_
      refine pm_iload_n (i := 1) d117_8 rfl rfl ?_
      refine pm_ineg d117_9 ?_
      refine pm_icmp_lt (tgt := 109) d117_10 rfl (fun c_10 => ?_) (fun c_10 => ?_)
      · refine pm_vret d117_109 rfl ?_
        refine h A1 g1 g0 ?_
        rw [ei, nn] at g2
        exact g2
      · exact absurd t4 c_10
  refine pm_aload_n (i := 0) d117_0 rfl rfl ?_
  refine pm_iconst (v := nI 0) d117_1 (by decide) ?_
  refine pm_putI d117_2 lp_11_76 rfl rfl ?_
  refine pm_iload_n (i := 1) d117_5 rfl rfl ?_
  refine pm_istore_n (i := 2) (L2 := [(0, _), (1, _), (2, _)]) d117_6 rfl (by decide) rfl ?_
  have e0 : nI f = hH f 0 := by
    unfold hH
    rw [show nI 0 = 0 from rfl, Int32.sub_zero]
  have := outer 0 (Nat.zero_le _) (mset A 0 6 (nI 0)) (fun c q1 _ _ _ => by rw [mset_other q1]) (fun j hj => by rw [mset_ne hj]) ⟨by rw [mset_at, n0], fun a ha => absurd ha (by rw [n0]; exact Nat.not_lt_zero a)⟩
  rw [← e0] at this
  exact this
-- struts
def dfM (x y : Int32) : Int32 := if 0 ≤ x * y then isz (isz x - isz y) else 9
def gpM (m n : Nat) : Nat := cond ((Nat.blt m 6 && Nat.blt 6 n) || (Nat.blt 6 m && Nat.blt n 6)) 9 ((abN m - abN n) + (abN n - abN m))
theorem tk_df : ∀ m : Nat, m < 13 → ∀ n : Nat, n < 13 → dfM (Int32.ofInt ((m : Int) - 6)) (Int32.ofInt ((n : Int) - 6)) = nI (gpM m n) ∧ gpM m n ≤ 12 ∧ (gpM m n < 2 → gpM m n = gpN m n) ∧ (2 ≤ gpM m n → 2 ≤ gpN m n) := by decide +kernel
theorem sp_118 {A : Mem} {Q : Int32 → Mem → Prop} {x y : Int32} (h : Q (dfM x y) A) : pm_P 118 0 [(0, .int x), (1, .int y)] [] A Q := by
  unfold dfM at h
  refine pm_iload_n (i := 0) d118_0 rfl rfl ?_
  refine pm_iload_n (i := 1) d118_1 rfl rfl ?_
  refine pm_imul d118_2 ?_
  refine pm_if_ge (tgt := 11) d118_3 rfl (fun c_3 => ?_) (fun c_3 => ?_)
  · refine pm_iload_n (i := 0) d118_11 rfl rfl ?_
    refine pm_callS (k2 := 114) (As := [_]) d118_12 lk_11_79 ok_114 rfl rfl rfl (Nat.le_of_ble_eq_true rfl) rfl rfl ⟨Nat.le_of_ble_eq_true rfl, Nat.le_of_ble_eq_true rfl⟩ (Nat.le_of_ble_eq_true rfl) ?_
    refine sp_114 ?_
    refine pm_iload_n (i := 1) d118_15 rfl rfl ?_
    refine pm_callS (k2 := 114) (As := [_]) d118_16 lk_11_79 ok_114 rfl rfl rfl (Nat.le_of_ble_eq_true rfl) rfl rfl ⟨Nat.le_of_ble_eq_true rfl, Nat.le_of_ble_eq_true rfl⟩ (Nat.le_of_ble_eq_true rfl) ?_
    refine sp_114 ?_
    refine pm_isub d118_19 ?_
    refine pm_callS (k2 := 114) (As := [_]) d118_20 lk_11_79 ok_114 rfl rfl rfl (Nat.le_of_ble_eq_true rfl) rfl rfl ⟨Nat.le_of_ble_eq_true rfl, Nat.le_of_ble_eq_true rfl⟩ (Nat.le_of_ble_eq_true rfl) ?_
    refine sp_114 ?_
    refine pm_iret d118_23 rfl (by first | rfl | exact nar_b _) ?_
    rw [if_pos c_3] at h
    exact h
  · refine pm_bipush (v := nI 9) d118_6 (by decide) ?_
    refine pm_goto (tgt := 23) d118_8 rfl ?_
    refine pm_iret d118_23 rfl (by first | rfl | exact nar_b _) ?_
    rw [if_neg c_3] at h
    exact h
theorem sp_119 {f a b : Nat} {A : Mem} {Q : Int32 → Mem → Prop} (h1 : 1 ≤ f) (h6 : f ≤ 6) (hB : MH f A) (ha : a < nh f) (hb9 : b < nh f) (h : Q (b2i (nbN f a b)) A) : pm_P 119 0 [(0, .ref 0), (1, .int (nI a)), (2, .int (nI b))] [] A Q := by
  have hb := bd_n h1 h6
  obtain ⟨a1, a2, a3⟩ := hB.2 a ha
  obtain ⟨b1, b2, b3⟩ := hB.2 b hb9
  obtain ⟨s1, s2, s3⟩ := bd_13 h1 h6 ha
  obtain ⟨r1, r2, r3⟩ := bd_13 h1 h6 hb9
  obtain ⟨x1, x2, x3, x4⟩ := tk_df _ s1 _ r1
  obtain ⟨y1, y2, y3, y4⟩ := tk_df _ s2 _ r2
  obtain ⟨z1, z2, z3, z4⟩ := tk_df _ s3 _ r3
  have x1 : dfM (hx f a) (hx f b) = nI (gpM (tn (tb_hx f) a) (tn (tb_hx f) b)) := x1
  have y1 : dfM (hy f a) (hy f b) = nI (gpM (tn (tb_hy f) a) (tn (tb_hy f) b)) := y1
  have z1 : dfM (hz f a) (hz f b) = nI (gpM (tn (tb_hz f) a) (tn (tb_hz f) b)) := z1
  unfold nbN at h
  generalize gpM (tn (tb_hx f) a) (tn (tb_hx f) b) = gx at *
  generalize gpM (tn (tb_hy f) a) (tn (tb_hy f) b) = gy at *
  generalize gpM (tn (tb_hz f) a) (tn (tb_hz f) b) = gz at *
  generalize gpN (tn (tb_hx f) a) (tn (tb_hx f) b) = kx at *
  generalize gpN (tn (tb_hy f) a) (tn (tb_hy f) b) = ky at *
  generalize gpN (tn (tb_hz f) a) (tn (tb_hz f) b) = kz at *
  refine pm_aload_n (i := 0) d119_0 rfl rfl ?_
  refine pm_getR d119_1 lf_11_20 rfl rfl ?_
  refine pm_iload_n (i := 1) d119_4 rfl rfl ?_
  refine pm_ialdN d119_5 rfl (by decide) (by omega) ?_
  rw [a1]
  refine pm_aload_n (i := 0) d119_6 rfl rfl ?_
  refine pm_getR d119_7 lf_11_20 rfl rfl ?_
  refine pm_iload_n (i := 2) d119_10 rfl rfl ?_
  refine pm_ialdN d119_11 rfl (by decide) (by omega) ?_
  rw [b1]
  refine pm_callS (k2 := 118) (As := [_, _]) d119_12 lk_11_83 ok_118 rfl rfl rfl (Nat.le_of_ble_eq_true rfl) rfl rfl ⟨Nat.le_of_ble_eq_true rfl, Nat.le_of_ble_eq_true rfl⟩ (Nat.le_of_ble_eq_true rfl) ?_
  refine sp_118 ?_
  rw [x1]
  refine pm_istore_n (i := 3) (L2 := [(0, _), (1, _), (2, _), (3, _)]) d119_15 rfl (by decide) rfl ?_
  refine pm_aload_n (i := 0) d119_16 rfl rfl ?_
  refine pm_getR d119_17 lf_11_23 rfl rfl ?_
  refine pm_iload_n (i := 1) d119_20 rfl rfl ?_
  refine pm_ialdN d119_21 rfl (by decide) (by omega) ?_
  rw [a2]
  refine pm_aload_n (i := 0) d119_22 rfl rfl ?_
  refine pm_getR d119_23 lf_11_23 rfl rfl ?_
  refine pm_iload_n (i := 2) d119_26 rfl rfl ?_
  refine pm_ialdN d119_27 rfl (by decide) (by omega) ?_
  rw [b2]
  refine pm_callS (k2 := 118) (As := [_, _]) d119_28 lk_11_83 ok_118 rfl rfl rfl (Nat.le_of_ble_eq_true rfl) rfl rfl ⟨Nat.le_of_ble_eq_true rfl, Nat.le_of_ble_eq_true rfl⟩ (Nat.le_of_ble_eq_true rfl) ?_
  refine sp_118 ?_
  rw [y1]
  refine pm_istore (L2 := [(0, _), (1, _), (2, _), (3, _), (4, _)]) d119_31 (by decide) rfl ?_
  refine pm_aload_n (i := 0) d119_33 rfl rfl ?_
  refine pm_getR d119_34 lf_11_26 rfl rfl ?_
  refine pm_iload_n (i := 1) d119_37 rfl rfl ?_
  refine pm_ialdN d119_38 rfl (by decide) (by omega) ?_
  rw [a3]
  refine pm_aload_n (i := 0) d119_39 rfl rfl ?_
  refine pm_getR d119_40 lf_11_26 rfl rfl ?_
  refine pm_iload_n (i := 2) d119_43 rfl rfl ?_
  refine pm_ialdN d119_44 rfl (by decide) (by omega) ?_
  rw [b3]
  refine pm_callS (k2 := 118) (As := [_, _]) d119_45 lk_11_83 ok_118 rfl rfl rfl (Nat.le_of_ble_eq_true rfl) rfl rfl ⟨Nat.le_of_ble_eq_true rfl, Nat.le_of_ble_eq_true rfl⟩ (Nat.le_of_ble_eq_true rfl) ?_
  refine sp_118 ?_
  rw [z1]
  refine pm_istore (L2 := [(0, _), (1, _), (2, _), (3, _), (4, _), (5, _)]) d119_48 (by decide) rfl ?_
  refine pm_iload_n (i := 3) d119_50 rfl rfl ?_
  refine pm_iconst (v := nI 2) d119_51 (by decide) ?_
  first | refine pm_icmp_geN (tgt := 82) d119_52 rfl (by omega) (by omega) (fun c_52 => ?_) (fun c_52 => ?_) | refine pm_icmp_ge (tgt := 82) d119_52 rfl (fun c_52 => ?_) (fun c_52 => ?_)
  · refine pm_iconst (v := nI 0) d119_82 (by decide) ?_
    refine pm_iret d119_83 rfl (by first | rfl | exact nar_b _) ?_
    have := x4 c_52
    rw [show Nat.ble kx 1 = false from (by rw [← Bool.not_eq_true, Nat.ble_eq]; omega), Bool.false_and] at h
    exact h
  · refine pm_iload d119_55 rfl ?_
    refine pm_iconst (v := nI 2) d119_57 (by decide) ?_
    first | refine pm_icmp_geN (tgt := 82) d119_58 rfl (by omega) (by omega) (fun c_58 => ?_) (fun c_58 => ?_) | refine pm_icmp_ge (tgt := 82) d119_58 rfl (fun c_58 => ?_) (fun c_58 => ?_)
    · refine pm_iconst (v := nI 0) d119_82 (by decide) ?_
      refine pm_iret d119_83 rfl (by first | rfl | exact nar_b _) ?_
      have := y4 c_58
      rw [show Nat.ble ky 1 = false from (by rw [← Bool.not_eq_true, Nat.ble_eq]; omega), Bool.false_and, Bool.and_false] at h
      exact h
    · refine pm_iload d119_61 rfl ?_
      refine pm_iconst (v := nI 2) d119_63 (by decide) ?_
      first | refine pm_icmp_geN (tgt := 82) d119_64 rfl (by omega) (by omega) (fun c_64 => ?_) (fun c_64 => ?_) | refine pm_icmp_ge (tgt := 82) d119_64 rfl (fun c_64 => ?_) (fun c_64 => ?_)
      · refine pm_iconst (v := nI 0) d119_82 (by decide) ?_
        refine pm_iret d119_83 rfl (by first | rfl | exact nar_b _) ?_
        have := z4 c_64
        rw [show Nat.ble kz 1 = false from (by rw [← Bool.not_eq_true, Nat.ble_eq]; omega), Bool.false_and, Bool.and_false, Bool.and_false] at h
        exact h
      · refine pm_iload_n (i := 3) d119_67 rfl rfl ?_
        refine pm_iload d119_68 rfl ?_
        first | refine pm_iaddN d119_70 ?_ | refine pm_iadd d119_70 ?_
        refine pm_iload d119_71 rfl ?_
        first | refine pm_iaddN d119_73 ?_ | refine pm_iadd d119_73 ?_
        refine pm_iconst (v := nI 2) d119_74 (by decide) ?_
        first | refine pm_icmp_neN (tgt := 82) d119_75 rfl (by omega) (by omega) (fun c_75 => ?_) (fun c_75 => ?_) | refine pm_icmp_ne (tgt := 82) d119_75 rfl (fun c_75 => ?_) (fun c_75 => ?_)
        · refine pm_iconst (v := nI 0) d119_82 (by decide) ?_
          refine pm_iret d119_83 rfl (by first | rfl | exact nar_b _) ?_
          have q1 := x3 c_52
          have q2 := y3 c_58
          have q3 := z3 c_64
          rw [show Nat.beq (kx + ky + kz) 2 = false by rw [← Bool.not_eq_true, Nat.beq_eq]; omega, Bool.and_false, Bool.and_false, Bool.and_false] at h
          exact h
        · refine pm_iconst (v := nI 1) d119_78 (by decide) ?_
          refine pm_goto (tgt := 83) d119_79 rfl ?_
          refine pm_iret d119_83 rfl (by first | rfl | exact nar_b _) ?_
          have q1 := x3 c_52
          have q2 := y3 c_58
          have q3 := z3 c_64
          rw [show Nat.ble kx 1 = true by rw [Nat.ble_eq]; omega, show Nat.ble ky 1 = true by rw [Nat.ble_eq]; omega, show Nat.ble kz 1 = true by rw [Nat.ble_eq]; omega, show Nat.beq (kx + ky + kz) 2 = true by rw [Nat.beq_eq]; omega] at h
          exact h
theorem tk_bs : allF (fun f => allN (ns f) (fun k => Nat.beq ((btw f (lo f k) (hi f k)).getD 999) k && Nat.beq ((btw f (hi f k) (lo f k)).getD 999) k)) = true := by decide +kernel
theorem bd_bs {f k : Nat} (h1 : 1 ≤ f) (h6 : f ≤ 6) (hk : k < ns f) : btw f (lo f k) (hi f k) = some k ∧ btw f (hi f k) (lo f k) = some k := by
  have hb := bd_n h1 h6
  have h2 := allN_of (allF_of tk_bs h1 h6) hk
  simp only [Bool.and_eq_true, Nat.beq_eq] at h2
  exact ⟨getD_some h2.1 (by omega), getD_some h2.2 (by omega)⟩
theorem btw_ends {f x y st : Nat} (h1 : 1 ≤ f) (h6 : f ≤ 6) (hx9 : x < nh f) (h : btw f x y = some st) : (lo f st = x ∧ hi f st = y) ∨ (hi f st = x ∧ lo f st = y) := by
  unfold btw at h
  cases e : fst (fun j => decide (lh f (x * 6 + j) = y)) (dg f x) with
  | none => rw [e] at h; cases h
  | some j =>
    rw [e] at h
    cases h
    obtain ⟨hj, hq⟩ := fst_lt e
    have hq := of_decide_eq_true hq
    rw [← hq]
    exact bd_e2 h1 h6 hx9 hj
/-- the strut between x and y, if it is among the first k -/
def btK (f k x y : Nat) : Int32 := match btw f x y with
  | none => -1
  | some st => if st < k then nI st else -1
def MSn (f k : Nat) (A : Mem) : Prop := A 0 7 = nI k ∧ (∀ i, i < k → A 7 i = nI (lo f i) ∧ A 8 i = nI (hi f i)) ∧ ∀ x y, x < nh f → y < nh f → A 12 (146 * x + y) = btK f k x y
theorem btK_ns {f x y : Nat} (h1 : 1 ≤ f) (h6 : f ≤ 6) (hx9 : x < nh f) : btK f (ns f) x y = opI (-1) (btw f x y) := by
  unfold btK
  cases e : btw f x y with
  | none => rfl
  | some st => dsimp only; rw [if_pos (btw_lt h1 h6 hx9 e)]; rfl
theorem btK_0 (f x y : Nat) : btK f 0 x y = -1 := by
  unfold btK
  cases btw f x y with
  | none => rfl
  | some st => dsimp only; rw [if_neg (Nat.not_lt_zero _)]
theorem MSn_add {f k : Nat} {A : Mem} (h1 : 1 ≤ f) (h6 : f ≤ 6) (hk : k < ns f) (h : MSn f k A) : MSn f (k + 1) (mset (mset (mset (mset (mset A 7 k (nI (lo f k))) 8 k (nI (hi f k))) 12 (146 * lo f k + hi f k) (nI k)) 12 (146 * hi f k + lo f k) (nI k)) 0 7 (nI (k + 1))) := by
  obtain ⟨s1, s2, s3⟩ := h
  have hb := bd_n h1 h6
  obtain ⟨v1, v2, -, -⟩ := bd_s h1 h6 hk
  obtain ⟨b1, b2⟩ := bd_bs h1 h6 hk
  refine ⟨by simp [mset_get], fun i hi9 => ?_, fun x y hx9 hy9 => ?_⟩
  · by_cases e : i = k
    · rw [e]; simp [mset_get]
    · have := s2 i (by omega)
      simp [mset_get, e, this]
  · rw [mset_other (by decide)]
    by_cases e2 : x = hi f k ∧ y = lo f k
    · rw [e2.1, e2.2, mset_at]
      unfold btK
      rw [b2]
      dsimp only
      rw [if_pos (Nat.lt_succ_self k)]
    · rw [mset_ne (show ¬ 146 * x + y = 146 * hi f k + lo f k by omega)]
      by_cases e1 : x = lo f k ∧ y = hi f k
      · rw [e1.1, e1.2, mset_at]
        unfold btK
        rw [b1]
        dsimp only
        rw [if_pos (Nat.lt_succ_self k)]
      · rw [mset_ne (show ¬ 146 * x + y = 146 * lo f k + hi f k by omega), mset_other (by decide), mset_other (by decide), s3 x y hx9 hy9]
        unfold btK
        cases e : btw f x y with
        | none => rfl
        | some st =>
          dsimp only
          have hne : ¬ st = k := fun q => by
            rcases btw_ends h1 h6 hx9 e with g | g
            · rw [q] at g; exact e1 ⟨g.1.symm, g.2.symm⟩
            · rw [q] at g; exact e2 ⟨g.1.symm, g.2.symm⟩
          by_cases q : st < k
          · rw [if_pos q, if_pos (by omega)]
          · rw [if_neg q, if_neg (by omega)]
theorem MH_keep {f : Nat} {A A2 : Mem} (h : MH f A) (h0 : A2 0 6 = A 0 6) (hk : ∀ c, 4 ≤ c → c ≤ 6 → A2 c = A c) : MH f A2 := by
  unfold MH at *
  rw [h0, hk 4 (by omega) (by omega), hk 5 (by omega) (by omega), hk 6 (by omega) (by omega)]
  exact h
theorem sp_123 {f : Nat} {A : Mem} {Q : Int32 → Mem → Prop} (h1 : 1 ≤ f) (h6 : f ≤ 6) (hB : MH f A) (h : ∀ A2 : Mem, (∀ c, c ≠ 0 → c ≠ 7 → c ≠ 8 → c ≠ 12 → A2 c = A c) → (∀ j, j ≠ 7 → A2 0 j = A 0 j) → MS f A2 → Q 0 A2) : pm_P 123 0 [(0, .ref 0)] [] A Q := by
  have hb := bd_n h1 h6
  have outer : ∀ a, a ≤ nh f → ∀ A1 : Mem, (∀ c, c ≠ 0 → c ≠ 7 → c ≠ 8 → c ≠ 12 → A1 c = A c) → (∀ j, j ≠ 7 → A1 0 j = A 0 j) → MSn f (fs f a) A1 → pm_P 123 52 [(0, .ref 0), (1, .int (nI a))] [] A1 Q := by
    refine up_ind (fun a ha ih A1 g1 g0 g2 => ?_)
    have hB1 : MH f A1 := MH_keep hB (g0 6 (by decide)) (fun c _ _ => g1 c (by omega) (by omega) (by omega) (by omega))
    by_cases hlt : a < nh f
    · obtain ⟨-, -, hst⟩ := bd_st (a := a) h1 h6
      obtain ⟨w1, w2, w3⟩ := hst hlt
      have inner : ∀ b, b ≤ nh f → a < b → ∀ A1 : Mem, (∀ c, c ≠ 0 → c ≠ 7 → c ≠ 8 → c ≠ 12 → A1 c = A c) → (∀ j, j ≠ 7 → A1 0 j = A 0 j) → MSn f (kat f a b) A1 → pm_P 123 64 [(0, .ref 0), (1, .int (nI a)), (2, .int (nI b))] [] A1 Q := by
        refine up_ind (fun b hb9 ih2 hab A1 g1 g0 g2 => ?_)
        have hB1 : MH f A1 := MH_keep hB (g0 6 (by decide)) (fun c _ _ => g1 c (by omega) (by omega) (by omega) (by omega))
        refine pm_iload_n (i := 2) d123_64 rfl rfl ?_
        refine pm_aload_n (i := 0) d123_65 rfl rfl ?_
        refine pm_getE d123_66 lf_11_76 rfl rfl (hB1.1) ?_
        first | refine pm_icmp_geN (tgt := 149) d123_69 rfl (by omega) (by omega) (fun c_69 => ?_) (fun c_69 => ?_) | refine pm_icmp_ge (tgt := 149) d123_69 rfl (fun c_69 => ?_) (fun c_69 => ?_)
        · first | refine pm_iincN 1 (L2 := [(0, _), (1, _), (2, _)]) d123_149 rfl (by decide) rfl ?_ | refine pm_iinc (L2 := [(0, _), (1, _), (2, _)]) d123_149 rfl rfl (by decide) rfl ?_
          refine pm_goto (tgt := 52) d123_152 rfl ?_
          refine pm_pick [0, 1] (L2 := [(0, _), (1, _)]) rfl ?_
          refine ih hlt A1 g1 g0 ?_
          rw [← w2, ← show b = nh f by omega]
          exact g2
        · refine pm_aload_n (i := 0) d123_72 rfl rfl ?_
          refine pm_iload_n (i := 1) d123_73 rfl rfl ?_
          refine pm_iload_n (i := 2) d123_74 rfl rfl ?_
          refine pm_callV (k2 := 119) (As := [_, _]) d123_75 lk_11_93 ok_119 rfl rfl rfl (Nat.le_of_ble_eq_true rfl) rfl rfl rfl rfl rfl ⟨Nat.le_of_ble_eq_true rfl, Nat.le_of_ble_eq_true rfl⟩ (Nat.le_of_ble_eq_true rfl) ?_
          refine sp_119 h1 h6 hB1 hlt c_69 ?_
          first | refine pm_if_eqB (tgt := 143) d123_78 rfl (fun c_78 => ?_) (fun c_78 => ?_) | refine pm_if_eqN (tgt := 143) d123_78 rfl (by omega) (fun c_78 => ?_) (fun c_78 => ?_) | refine pm_if_eq (tgt := 143) d123_78 rfl (fun c_78 => ?_) (fun c_78 => ?_)
          · first | refine pm_iincN 1 (L2 := [(0, _), (1, _), (2, _)]) d123_143 rfl (by decide) rfl ?_ | refine pm_iinc (L2 := [(0, _), (1, _), (2, _)]) d123_143 rfl rfl (by decide) rfl ?_
            refine pm_goto (tgt := 64) d123_146 rfl ?_
            refine ih2 c_69 (by omega) A1 g1 g0 ?_
            rw [(w3 b c_69 hab).2 c_78]
            exact g2
          · obtain ⟨y1, y2, y3, y4⟩ := (w3 b c_69 hab).1 c_78
            have hadd := MSn_add h1 h6 y3 g2
            rw [y1, y2] at hadd 
            refine pm_aload_n (i := 0) d123_81 rfl rfl ?_
            refine pm_getR d123_82 lf_11_29 rfl rfl ?_
            refine pm_aload_n (i := 0) d123_85 rfl rfl ?_
            refine pm_getE (v := nI (kat f a b)) d123_86 lf_11_90 rfl rfl (by simp [mset_get, g2.1]) ?_
            refine pm_iload_n (i := 1) d123_89 rfl rfl ?_
            refine pm_iastN d123_90 rfl (by decide) (by omega) ?_
            refine pm_aload_n (i := 0) d123_91 rfl rfl ?_
            refine pm_getR d123_92 lf_11_32 rfl rfl ?_
            refine pm_aload_n (i := 0) d123_95 rfl rfl ?_
            refine pm_getE (v := nI (kat f a b)) d123_96 lf_11_90 rfl rfl (by simp [mset_get, g2.1]) ?_
            refine pm_iload_n (i := 2) d123_99 rfl rfl ?_
            refine pm_iastN d123_100 rfl (by decide) (by omega) ?_
            refine pm_aload_n (i := 0) d123_101 rfl rfl ?_
            refine pm_getR d123_102 lf_11_44 rfl rfl ?_
            refine pm_sipush (v := nI 146) d123_105 (by decide) ?_
            refine pm_iload_n (i := 1) d123_108 rfl rfl ?_
            first | refine pm_imulN d123_109 ?_ | refine pm_imul d123_109 ?_
            refine pm_iload_n (i := 2) d123_110 rfl rfl ?_
            first | refine pm_iaddN d123_111 ?_ | refine pm_iadd d123_111 ?_
            refine pm_aload_n (i := 0) d123_112 rfl rfl ?_
            refine pm_getE (v := nI (kat f a b)) d123_113 lf_11_90 rfl rfl (by simp [mset_get, g2.1]) ?_
            refine pm_iastN d123_116 rfl (by decide) (by omega) ?_
            refine pm_aload_n (i := 0) d123_117 rfl rfl ?_
            refine pm_getR d123_118 lf_11_44 rfl rfl ?_
            refine pm_sipush (v := nI 146) d123_121 (by decide) ?_
            refine pm_iload_n (i := 2) d123_124 rfl rfl ?_
            first | refine pm_imulN d123_125 ?_ | refine pm_imul d123_125 ?_
            refine pm_iload_n (i := 1) d123_126 rfl rfl ?_
            first | refine pm_iaddN d123_127 ?_ | refine pm_iadd d123_127 ?_
            refine pm_aload_n (i := 0) d123_128 rfl rfl ?_
            refine pm_getE (v := nI (kat f a b)) d123_129 lf_11_90 rfl rfl (by simp [mset_get, g2.1]) ?_
            refine pm_iastN d123_132 rfl (by decide) (by omega) ?_
            refine pm_aload_n (i := 0) d123_133 rfl rfl ?_
            refine pm_dup d123_134 rfl ?_
            refine pm_getE (v := nI (kat f a b)) d123_135 lf_11_90 rfl rfl (by simp [mset_get, g2.1]) ?_
            refine pm_iconst (v := nI 1) d123_138 (by decide) ?_
            first | refine pm_iaddN d123_139 ?_ | refine pm_iadd d123_139 ?_
            refine pm_putI d123_140 lp_11_90 rfl rfl ?_
            first | refine pm_iincN 1 (L2 := [(0, _), (1, _), (2, _)]) d123_143 rfl (by decide) rfl ?_ | refine pm_iinc (L2 := [(0, _), (1, _), (2, _)]) d123_143 rfl rfl (by decide) rfl ?_
            refine pm_goto (tgt := 64) d123_146 rfl ?_
            refine ih2 c_69 (by omega) _ (fun c q1 q2 q3 q4 => by rw [mset_other q1, mset_other q4, mset_other q4, mset_other q3, mset_other q2]; exact g1 c q1 q2 q3 q4) (fun j hj => by rw [mset_ne hj, mset_other (by decide), mset_other (by decide), mset_other (by decide), mset_other (by decide)]; exact g0 j hj) ?_
            rw [y4]
            exact hadd
      refine pm_iload_n (i := 1) d123_52 rfl rfl ?_
      refine pm_aload_n (i := 0) d123_53 rfl rfl ?_
      refine pm_getE d123_54 lf_11_76 rfl rfl (hB1.1) ?_
      first | refine pm_icmp_geN (tgt := 155) d123_57 rfl (by omega) (by omega) (fun c_57 => ?_) (fun c_57 => ?_) | refine pm_icmp_ge (tgt := 155) d123_57 rfl (fun c_57 => ?_) (fun c_57 => ?_)
      · omega
      · refine pm_iload_n (i := 1) d123_60 rfl rfl ?_
        refine pm_iconst (v := nI 1) d123_61 (by decide) ?_
        first | refine pm_iaddN d123_62 ?_ | refine pm_iadd d123_62 ?_
        refine pm_istore_n (i := 2) (L2 := [(0, _), (1, _), (2, _)]) d123_63 rfl (by decide) rfl ?_
        exact inner (a + 1) (by omega) (by omega) A1 g1 g0 (by rw [w1]; exact g2)
    · have ea : a = nh f := by omega
      refine pm_iload_n (i := 1) d123_52 rfl rfl ?_
      refine pm_aload_n (i := 0) d123_53 rfl rfl ?_
      refine pm_getE d123_54 lf_11_76 rfl rfl (hB1.1) ?_
      first | refine pm_icmp_geN (tgt := 155) d123_57 rfl (by omega) (by omega) (fun c_57 => ?_) (fun c_57 => ?_) | refine pm_icmp_ge (tgt := 155) d123_57 rfl (fun c_57 => ?_) (fun c_57 => ?_)
      · refine pm_vret d123_155 rfl ?_
        rw [ea, (bd_st (a := 0) h1 h6).2.1] at g2
        exact h A1 g1 g0 ⟨g2.1, g2.2.1, fun x y hx9 hy9 => by rw [g2.2.2 x y hx9 hy9]; exact btK_ns h1 h6 hx9⟩
      · omega
  have clear9 : ∀ a, a ≤ nh f → ∀ A1 : Mem, (∀ c, c ≠ 0 → c ≠ 7 → c ≠ 8 → c ≠ 12 → A1 c = A c) → (∀ j, j ≠ 7 → A1 0 j = A 0 j) → A1 0 7 = nI 0 → (∀ x y, x < a → y < nh f → A1 12 (146 * x + y) = -1) → pm_P 123 7 [(0, .ref 0), (1, .int (nI a))] [] A1 Q := by
    refine up_ind (fun a ha ih A1 g1 g0 g7 g2 => ?_)
    have hB1 : MH f A1 := MH_keep hB (g0 6 (by decide)) (fun c _ _ => g1 c (by omega) (by omega) (by omega) (by omega))
    by_cases hlt : a < nh f
    · have inner : ∀ b, b ≤ nh f → ∀ A1 : Mem, (∀ c, c ≠ 0 → c ≠ 7 → c ≠ 8 → c ≠ 12 → A1 c = A c) → (∀ j, j ≠ 7 → A1 0 j = A 0 j) → A1 0 7 = nI 0 → (∀ x y, x < nh f → y < nh f → (x < a ∨ (x = a ∧ y < b)) → A1 12 (146 * x + y) = -1) → pm_P 123 17 [(0, .ref 0), (1, .int (nI a)), (2, .int (nI b))] [] A1 Q := by
        refine up_ind (fun b hb9 ih2 A1 g1 g0 g7 g2 => ?_)
        have e6 : A1 0 6 = nI (nh f) := by rw [g0 6 (by decide)]; exact hB.1
        refine pm_iload_n (i := 2) d123_17 rfl rfl ?_
        refine pm_aload_n (i := 0) d123_18 rfl rfl ?_
        refine pm_getE d123_19 lf_11_76 rfl rfl (e6) ?_
        first | refine pm_icmp_geN (tgt := 44) d123_22 rfl (by omega) (by omega) (fun c_22 => ?_) (fun c_22 => ?_) | refine pm_icmp_ge (tgt := 44) d123_22 rfl (fun c_22 => ?_) (fun c_22 => ?_)
        · first | refine pm_iincN 1 (L2 := [(0, _), (1, _), (2, _)]) d123_44 rfl (by decide) rfl ?_ | refine pm_iinc (L2 := [(0, _), (1, _), (2, _)]) d123_44 rfl rfl (by decide) rfl ?_
          refine pm_goto (tgt := 7) d123_47 rfl ?_
          refine pm_pick [0, 1] (L2 := [(0, _), (1, _)]) rfl ?_
          exact ih hlt A1 g1 g0 g7 (fun x y hx9 hy9 => g2 x y (by omega) hy9 (by omega))
        · refine pm_aload_n (i := 0) d123_25 rfl rfl ?_
          refine pm_getR d123_26 lf_11_44 rfl rfl ?_
          refine pm_sipush (v := nI 146) d123_29 (by decide) ?_
          refine pm_iload_n (i := 1) d123_32 rfl rfl ?_
          first | refine pm_imulN d123_33 ?_ | refine pm_imul d123_33 ?_
          refine pm_iload_n (i := 2) d123_34 rfl rfl ?_
          first | refine pm_iaddN d123_35 ?_ | refine pm_iadd d123_35 ?_
          refine pm_iconst (v := -1) d123_36 (by decide) ?_
          refine pm_iastN d123_37 rfl (by decide) (by omega) ?_
          first | refine pm_iincN 1 (L2 := [(0, _), (1, _), (2, _)]) d123_38 rfl (by decide) rfl ?_ | refine pm_iinc (L2 := [(0, _), (1, _), (2, _)]) d123_38 rfl rfl (by decide) rfl ?_
          refine pm_goto (tgt := 17) d123_41 rfl ?_
          refine ih2 c_22 _ (fun c q1 q2 q3 q4 => by rw [mset_other q4]; exact g1 c q1 q2 q3 q4) (fun j hj => by rw [mset_other (by decide)]; exact g0 j hj) (by rw [mset_other (by decide)]; exact g7) (fun x y hx9 hy9 hxy => ?_)
          by_cases e : x = a ∧ y = b
          · rw [e.1, e.2, mset_at]
          · rw [mset_ne (show ¬ 146 * x + y = 146 * a + b by omega)]
            exact g2 x y hx9 hy9 (by omega)
      refine pm_iload_n (i := 1) d123_7 rfl rfl ?_
      refine pm_aload_n (i := 0) d123_8 rfl rfl ?_
      refine pm_getE d123_9 lf_11_76 rfl rfl (hB1.1) ?_
      first | refine pm_icmp_geN (tgt := 50) d123_12 rfl (by omega) (by omega) (fun c_12 => ?_) (fun c_12 => ?_) | refine pm_icmp_ge (tgt := 50) d123_12 rfl (fun c_12 => ?_) (fun c_12 => ?_)
      · omega
      · refine pm_iconst (v := nI 0) d123_15 (by decide) ?_
        refine pm_istore_n (i := 2) (L2 := [(0, _), (1, _), (2, _)]) d123_16 rfl (by decide) rfl ?_
        exact inner 0 (Nat.zero_le _) A1 g1 g0 g7 (fun x y hx9 hy9 hxy => g2 x y (by omega) hy9)
    · have ea : a = nh f := by omega
      refine pm_iload_n (i := 1) d123_7 rfl rfl ?_
      refine pm_aload_n (i := 0) d123_8 rfl rfl ?_
      refine pm_getE d123_9 lf_11_76 rfl rfl (hB1.1) ?_
      first | refine pm_icmp_geN (tgt := 50) d123_12 rfl (by omega) (by omega) (fun c_12 => ?_) (fun c_12 => ?_) | refine pm_icmp_ge (tgt := 50) d123_12 rfl (fun c_12 => ?_) (fun c_12 => ?_)
      · refine pm_iconst (v := nI 0) d123_50 (by decide) ?_
        refine pm_istore_n (i := 1) (L2 := [(0, _), (1, _)]) d123_51 rfl (by decide) rfl ?_
        refine outer 0 (Nat.zero_le _) A1 g1 g0 ?_
        rw [(bd_st (a := 0) h1 h6).1]
        exact ⟨g7, fun i hi9 => absurd hi9 (Nat.not_lt_zero i), fun x y hx9 hy9 => by rw [btK_0]; exact g2 x y (by omega) hy9⟩
      · omega
  refine pm_aload_n (i := 0) d123_0 rfl rfl ?_
  refine pm_iconst (v := nI 0) d123_1 (by decide) ?_
  refine pm_putI d123_2 lp_11_90 rfl rfl ?_
  refine pm_iconst (v := nI 0) d123_5 (by decide) ?_
  refine pm_istore_n (i := 1) (L2 := [(0, _), (1, _)]) d123_6 rfl (by decide) rfl ?_
  exact clear9 0 (Nat.zero_le _) _ (fun c q1 _ _ _ => by rw [mset_other q1]) (fun j hj => by rw [mset_ne hj]) (by rw [mset_at]) (fun x y hx9 _ => absurd hx9 (Nat.not_lt_zero x))
