def tb_fs (f : Nat) : Nat := match f with
  | 1 => 0xc0300b0240701000
  | 2 => 0x300c02f0b42b0a0270902107c1d06817050110340901000
  | 3 => 0x6c1b06b1a467190631805d16c59158531404f13049118431043f0f0390d8330c02d0a82708c1f07019050110340901000
  | 4 => 0xc0300bf2f4bb2e0b72d0b12bcad2a8a7290a32809d26897254932408d22887210832007d1e8771d0711bc6d1a867190611785b160551484f13049114410f83b0e0350c02d0a82708c1f07019050110340901000
  | 5 => 0x12c4b12b4a527491234811d46d19459134410f4310941903404ff3f0f93d8f33c0ef3b0e9398e3380dd36cd9358d3340cd328c7310c3300bd2e8b72d0b12b8ab2a4a7290a12789b260952488f23089218832007d1e8771cc6f1b069198631805d160551484f13049114410f83b0e0350c02d0a82708c1f07019050110340901000
  | 6 => 0x1b06c1af6b5ab6a1a7691a167d9d66997651936418d62987615836017d5e9775d1735c16d5a9675916157d5d56957551515394b52147511414f93b4e1354c92f4b52b4a1254891f47119459134410f4310941903400fd3e8f73d0f13bced3a8e7390e1378db360d5348cf330c9318c3300bd2e8b72d0b12b4a9298a32809d268972509123089218832007d1e8771cc6f1b069198631805d160551484f13049114410f83b0e0350c02d0a82708c1f07019050110340901000
  | _ => 0
def fs (f i : Nat) : Nat := tn (tb_fs f) i
def tb_ff (f : Nat) : Nat := match f with
  | 1 => 0x80200801c0601000
  | 2 => 0x200802007c1e0701c0681805c16050120400e02c0801000
  | 3 => 0x481204811c4611044108400fc3e0f03a0e0380d8340c8300bc2e0b02a0a026090220801e06c18058140400e02c0801000
  | 4 => 0x80200801fc7e1f07c1e8781dc761d0721c0701b86c1a86819c66190621805e1705c16858158541485013c4e1304a12046110421003e0f03a0e0360cc300b82c0a828090220801e06c18058140400e02c0801000
  | 5 => 0xc8320c831cc6310c4308c02fcbe2f0ba2e0b82d8b42c8b02bcae2b0aa2a0a6290a4288a02789c2689825c96250922408e2308a2208821884208801f87c1e8781dc761d0721c06e1b06a1a066190621805e1705a1605614c501384c12848118441003e0f03a0e0360cc300b82c0a828090220801e06c18058140400e02c0801000
  | 6 => 0x1204812047d1e4711c4691845d1645112441104390c4290841d0641102400fe3f0fc3e8f83d8f43c8f03bcee3b0ea3a0e6390e2380e0378dc368d8358d4348d033cce330ca320c6310c2300be2f0bc2e8b82d8b42c8b02b8ac2a8a829ca6290a22809e2709a26096250922408e2308a22086210822007e1ec781d8741c8701b86c1a868190621805e1705a1605614c501384c12848118441003e0f03a0e0360cc300b82c0a828090220801e06c18058140400e02c0801000
  | _ => 0
def ff (f i : Nat) : Nat := tn (tb_ff f) i
def tb_fk (f : Nat) : Nat := match f with
  | 1 => 0x0
  | 2 => 0x1000
  | 3 => 0x701000
  | 4 => 0x68140180401c00
  | 5 => 0x3506814058170100601c00
  | 6 => 0x370d41a050170100601c00
  | _ => 0
def fk (f i : Nat) : Nat := tn (tb_fk f) i
/-! HOW THE CLASS BUILDS ITS HUBS -/
theorem sp_9 {A : Mem} {Q : Int32 → Mem → Prop} {n : Nat} {x y z : Int32} (hn : A 1 4 = nI n) (hn2 : n < 146) (h : Q 0 (mset (mset (mset (mset A 2 n x) 3 n y) 4 n z) 1 4 (nI (n + 1)))) : pm_P 9 0 [(0, .ref 1), (1, .int x), (2, .int y), (3, .int z)] [] A Q := by
  refine pm_aload_n (i := 0) d9_0 rfl rfl ?_
  refine pm_getE (v := nI n) d9_1 lf_2_25 rfl rfl (by simp [mset_get, hn]) ?_
  refine pm_sipush (v := nI 146) d9_4 (by decide) ?_
  first | refine pm_icmp_ltN (tgt := 11) d9_7 rfl (by omega) (by omega) (fun c_7 => ?_) (fun c_7 => ?_) | refine pm_icmp_lt (tgt := 11) d9_7 rfl (fun c_7 => ?_) (fun c_7 => ?_)
  · refine pm_aload_n (i := 0) d9_11 rfl rfl ?_
    refine pm_getR d9_12 lf_2_9 rfl rfl ?_
    refine pm_aload_n (i := 0) d9_15 rfl rfl ?_
    refine pm_getE (v := nI n) d9_16 lf_2_25 rfl rfl (by simp [mset_get, hn]) ?_
    refine pm_iload_n (i := 1) d9_19 rfl rfl ?_
    refine pm_iastN d9_20 rfl (by decide) (by omega) ?_
    refine pm_aload_n (i := 0) d9_21 rfl rfl ?_
    refine pm_getR d9_22 lf_2_15 rfl rfl ?_
    refine pm_aload_n (i := 0) d9_25 rfl rfl ?_
    refine pm_getE (v := nI n) d9_26 lf_2_25 rfl rfl (by simp [mset_get, hn]) ?_
    refine pm_iload_n (i := 2) d9_29 rfl rfl ?_
    refine pm_iastN d9_30 rfl (by decide) (by omega) ?_
    refine pm_aload_n (i := 0) d9_31 rfl rfl ?_
    refine pm_getR d9_32 lf_2_18 rfl rfl ?_
    refine pm_aload_n (i := 0) d9_35 rfl rfl ?_
    refine pm_getE (v := nI n) d9_36 lf_2_25 rfl rfl (by simp [mset_get, hn]) ?_
    refine pm_iload_n (i := 3) d9_39 rfl rfl ?_
    refine pm_iastN d9_40 rfl (by decide) (by omega) ?_
    refine pm_aload_n (i := 0) d9_41 rfl rfl ?_
    refine pm_dup d9_42 rfl ?_
    refine pm_getE (v := nI n) d9_43 lf_2_25 rfl rfl (by simp [mset_get, hn]) ?_
    refine pm_iconst (v := nI 1) d9_46 (by decide) ?_
    first | refine pm_iaddN d9_47 ?_ | refine pm_iadd d9_47 ?_
    refine pm_putI d9_48 lp_2_25 rfl rfl ?_
    refine pm_vret d9_51 rfl ?_
    exact h
  · omega
/-- the first n hubs stand -/
def HB (f n : Nat) (A : Mem) : Prop := A 1 3 = nI f ∧ A 1 4 = nI n ∧ ∀ a, a < n → A 2 a = hx f a ∧ A 3 a = hy f a ∧ A 4 a = hz f a
theorem HB_add {f n : Nat} {A : Mem} (h : HB f n A) : HB f (n + 1) (mset (mset (mset (mset A 2 n (hx f n)) 3 n (hy f n)) 4 n (hz f n)) 1 4 (nI (n + 1))) := by
  obtain ⟨h1, h2, h3⟩ := h
  refine ⟨by simp [mset_get, h1], by simp [mset_get], fun a ha => ?_⟩
  by_cases e : a = n
  · subst e
    simp [mset_get]
  · have := h3 a (by omega)
    simp [mset_get, e, this]
/-- the height of layer i, its width, the depth of place j, what is left of the width there -/
def hH (f i : Nat) : Int32 := nI f - nI i
def wd (f i : Nat) : Nat := if i ≤ f then i else 2 * f - i
def hD (w j : Nat) : Int32 := -nI w + nI j
def rs (w j : Nat) : Nat := if j ≤ w then j else 2 * w - j
def ofl (f : Nat) : Nat → Nat
  | 0 => 0
  | i + 1 => ofl f i + (if wd f i = 0 then 1 else 4 * wd f i)
def inl9 (w j : Nat) : Nat := if j = 0 then 0 else if j ≤ 2 * w then 2 * j - 1 else if w = 0 then 1 else 4 * w
theorem tk_w : ∀ w, w < 7 → ∀ j, j < 14 → (j ≤ 2 * w → ¬ nI w < hD w j ∧ nI w - iabs (hD w j) = nI (rs w j) ∧ inl9 w (j + 1) = inl9 w j + (if 0 < rs w j then 2 else 1)) ∧ (j = 2 * w + 1 → nI w < hD w j) ∧ hD w j + Int32.ofInt 1 = hD w (j + 1) := by decide +kernel
theorem tk_h : ∀ f, f < 7 → ∀ i, i < 14 → (i ≤ 2 * f → ¬ hH f i < -nI f ∧ nI f - iabs (hH f i) = nI (wd f i) ∧ wd f i ≤ 6) ∧ (i = 2 * f + 1 → hH f i < -nI f) ∧ hH f i + Int32.ofInt (-1) = hH f (i + 1) := by decide +kernel
theorem tk_hub : allF (fun f => Nat.beq (ofl f (2 * f + 1)) (nh f) && allN (2 * f + 1) (fun i => allN (2 * wd f i + 1) (fun j => Nat.blt (ofl f i + inl9 (wd f i) j) (nh f) && (decide (hx f (ofl f i + inl9 (wd f i) j) = -nI (rs (wd f i) j)) && (decide (hy f (ofl f i + inl9 (wd f i) j) = hD (wd f i) j) && (decide (hz f (ofl f i + inl9 (wd f i) j) = hH f i) && (Nat.beq (rs (wd f i) j) 0 || (Nat.blt (ofl f i + inl9 (wd f i) j + 1) (nh f) && (decide (hx f (ofl f i + inl9 (wd f i) j + 1) = nI (rs (wd f i) j)) && (decide (hy f (ofl f i + inl9 (wd f i) j + 1) = hD (wd f i) j) && decide (hz f (ofl f i + inl9 (wd f i) j + 1) = hH f i))))))))))) = true := by decide +kernel
theorem bd_hub {f i j : Nat} (h1 : 1 ≤ f) (h6 : f ≤ 6) (hi9 : i < 2 * f + 1) (hj : j < 2 * wd f i + 1) : ofl f i + inl9 (wd f i) j < nh f ∧ hx f (ofl f i + inl9 (wd f i) j) = -nI (rs (wd f i) j) ∧ hy f (ofl f i + inl9 (wd f i) j) = hD (wd f i) j ∧ hz f (ofl f i + inl9 (wd f i) j) = hH f i ∧ (0 < rs (wd f i) j → ofl f i + inl9 (wd f i) j + 1 < nh f ∧ hx f (ofl f i + inl9 (wd f i) j + 1) = nI (rs (wd f i) j) ∧ hy f (ofl f i + inl9 (wd f i) j + 1) = hD (wd f i) j ∧ hz f (ofl f i + inl9 (wd f i) j + 1) = hH f i) := by
  have h0 := allF_of tk_hub h1 h6
  simp only [Bool.and_eq_true] at h0
  have h2 := allN_of (allN_of h0.2 hi9) hj
  simp only [Bool.and_eq_true, Bool.or_eq_true, Nat.blt_eq, Nat.beq_eq, decide_eq_true_eq] at h2
  obtain ⟨a1, a2, a3, a4, a5⟩ := h2
  refine ⟨a1, a2, a3, a4, fun q => ?_⟩
  rcases a5 with a5 | a5
  · omega
  · exact a5
theorem bd_ofl {f : Nat} (h1 : 1 ≤ f) (h6 : f ≤ 6) : ofl f (2 * f + 1) = nh f := by
  have h0 := allF_of tk_hub h1 h6
  simp only [Bool.and_eq_true, Nat.beq_eq] at h0
  exact h0.1
theorem sp_8 {f : Nat} {A : Mem} {Q : Int32 → Mem → Prop} (h1 : 1 ≤ f) (h6 : f ≤ 6) (h : ∀ A2 : Mem, (∀ c, c ≠ 1 → c ≠ 2 → c ≠ 3 → c ≠ 4 → A2 c = A c) → BH f A2 → Q 0 A2) : pm_P 8 0 [(0, .ref 1), (1, .int (nI f))] [] A Q := by
  have hb := bd_n h1 h6
  have outer : ∀ i, i ≤ 2 * f + 1 → ∀ A1 : Mem, (∀ c, c ≠ 1 → c ≠ 2 → c ≠ 3 → c ≠ 4 → A1 c = A c) → HB f (ofl f i) A1 → pm_P 8 15 [(0, .ref 1), (1, .int (nI f)), (2, .int (hH f i))] [] A1 Q := by
    refine up_ind (fun i hi9 ih A1 g1 g2 => ?_)
    obtain ⟨t1, t2, t3⟩ := tk_h f (by omega) i (by omega)
    by_cases hlt : i < 2 * f + 1
    · obtain ⟨u1, u2, u3⟩ := t1 (by omega)
      have inner : ∀ j, j ≤ 2 * wd f i + 1 → ∀ A1 : Mem, (∀ c, c ≠ 1 → c ≠ 2 → c ≠ 3 → c ≠ 4 → A1 c = A c) → HB f (ofl f i + inl9 (wd f i) j) A1 → pm_P 8 38 [(0, .ref 1), (1, .int (nI f)), (2, .int (hH f i)), (3, .int (nI (wd f i))), (4, .int (hD (wd f i) j))] [] A1 Q := by
        refine up_ind (fun j hj ih2 A1 g1 g2 => ?_)
        obtain ⟨w1, w2, w3⟩ := tk_w (wd f i) (by omega) j (by omega)
        by_cases hlt2 : j < 2 * wd f i + 1
        · obtain ⟨v1, v2, v3⟩ := w1 (by omega)
          obtain ⟨b1, b2, b3, b4, b5⟩ := bd_hub h1 h6 hlt hlt2
          have k77 : ∀ A1 : Mem, (∀ c, c ≠ 1 → c ≠ 2 → c ≠ 3 → c ≠ 4 → A1 c = A c) → HB f (ofl f i + inl9 (wd f i) (j + 1)) A1 → pm_P 8 77 [(0, .ref 1), (1, .int (nI f)), (2, .int (hH f i)), (3, .int (nI (wd f i))), (4, .int (hD (wd f i) j)), (5, .int (nI (rs (wd f i) j)))] [] A1 Q := by
            intro A1 g1 g2
            refine pm_iinc (L2 := [(0, _), (1, _), (2, _), (3, _), (4, _), (5, _)]) d8_77 rfl w3 (by decide) rfl ?_
            refine pm_goto (tgt := 38) d8_80 rfl ?_
            refine pm_pick [0, 1, 2, 3, 4] (L2 := [(0, _), (1, _), (2, _), (3, _), (4, _)]) rfl ?_
            exact ih2 hlt2 A1 g1 g2
          have hmx := nI_half
          refine pm_iload d8_38 rfl ?_
          refine pm_iload_n (i := 3) d8_40 rfl rfl ?_
          refine pm_icmp_gt (tgt := 83) d8_41 rfl (fun c_41 => ?_) (fun c_41 => ?_)
          · exact absurd c_41 v1
          · refine pm_iload_n (i := 3) d8_44 rfl rfl ?_
            refine pm_iload d8_45 rfl ?_
            refine pm_mabs d8_47 lm_2_28 (Nat.le_of_ble_eq_true rfl) (Nat.le_of_ble_eq_true rfl) ?_
            refine pm_isub d8_50 ?_
            rw [show nI (wd f i) - (if 0 ≤ hD (wd f i) j then hD (wd f i) j else 0 - hD (wd f i) j) = nI (rs (wd f i) j) from v2]
            refine pm_istore (L2 := [(0, _), (1, _), (2, _), (3, _), (4, _), (5, _)]) d8_51 (by decide) rfl ?_
            refine pm_aload_n (i := 0) d8_53 rfl rfl ?_
            refine pm_iload d8_54 rfl ?_
            refine pm_ineg d8_56 ?_
            refine pm_iload d8_57 rfl ?_
            refine pm_iload_n (i := 2) d8_59 rfl rfl ?_
            refine pm_callVv (k2 := 9) (As := [_, _, _]) d8_60 lk_2_34 ok_9 rfl rfl rfl (Nat.le_of_ble_eq_true rfl) rfl rfl rfl rfl rfl ⟨Nat.le_of_ble_eq_true rfl, Nat.le_of_ble_eq_true rfl⟩ (Nat.le_of_ble_eq_true rfl) ?_
            refine sp_9 g2.2.1 (by omega) ?_
            rw [← b2, ← b3, ← b4]
            have g3 := HB_add g2
            have g4 : ∀ c, c ≠ 1 → c ≠ 2 → c ≠ 3 → c ≠ 4 → mset (mset (mset (mset A1 2 (ofl f i + inl9 (wd f i) j) (hx f (ofl f i + inl9 (wd f i) j))) 3 (ofl f i + inl9 (wd f i) j) (hy f (ofl f i + inl9 (wd f i) j))) 4 (ofl f i + inl9 (wd f i) j) (hz f (ofl f i + inl9 (wd f i) j))) 1 4 (nI (ofl f i + inl9 (wd f i) j + 1)) c = A c := fun c q1 q2 q3 q4 => by rw [mset_other q1, mset_other q4, mset_other q3, mset_other q2]; exact g1 c q1 q2 q3 q4
            rw [b3, b4]
            rw [b3, b4] at g3 g4
            generalize mset (mset (mset (mset A1 2 (ofl f i + inl9 (wd f i) j) (hx f (ofl f i + inl9 (wd f i) j))) 3 (ofl f i + inl9 (wd f i) j) (hD (wd f i) j)) 4 (ofl f i + inl9 (wd f i) j) (hH f i)) 1 4 (nI (ofl f i + inl9 (wd f i) j + 1)) = A3 at g3 g4 ⊢
            have hrs : rs (wd f i) j ≤ 6 := by unfold rs; split <;> omega
            refine pm_iload d8_63 rfl ?_
            first | refine pm_if_leN (tgt := 77) d8_65 rfl (by omega) (fun c_65 => ?_) (fun c_65 => ?_) | refine pm_if_le (tgt := 77) d8_65 rfl (fun c_65 => ?_) (fun c_65 => ?_)
            · refine k77 A3 g4 ?_
              rw [v3, if_neg (by omega)]
              exact g3
            · obtain ⟨c1, c2, c3, c4⟩ := b5 c_65 
              refine pm_aload_n (i := 0) d8_68 rfl rfl ?_
              refine pm_iload d8_69 rfl ?_
              refine pm_iload d8_71 rfl ?_
              refine pm_iload_n (i := 2) d8_73 rfl rfl ?_
              refine pm_callVv (k2 := 9) (As := [_, _, _]) d8_74 lk_2_34 ok_9 rfl rfl rfl (Nat.le_of_ble_eq_true rfl) rfl rfl rfl rfl rfl ⟨Nat.le_of_ble_eq_true rfl, Nat.le_of_ble_eq_true rfl⟩ (Nat.le_of_ble_eq_true rfl) ?_
              refine sp_9 g3.2.1 (by omega) ?_
              rw [← c2, ← c3, ← c4]
              have g5 := HB_add g3
              have g6 : ∀ c, c ≠ 1 → c ≠ 2 → c ≠ 3 → c ≠ 4 → mset (mset (mset (mset A3 2 (ofl f i + inl9 (wd f i) j + 1) (hx f (ofl f i + inl9 (wd f i) j + 1))) 3 (ofl f i + inl9 (wd f i) j + 1) (hy f (ofl f i + inl9 (wd f i) j + 1))) 4 (ofl f i + inl9 (wd f i) j + 1) (hz f (ofl f i + inl9 (wd f i) j + 1))) 1 4 (nI (ofl f i + inl9 (wd f i) j + 1 + 1)) c = A c := fun c q1 q2 q3 q4 => by rw [mset_other q1, mset_other q4, mset_other q3, mset_other q2]; exact g4 c q1 q2 q3 q4
              generalize mset (mset (mset (mset A3 2 (ofl f i + inl9 (wd f i) j + 1) (hx f (ofl f i + inl9 (wd f i) j + 1))) 3 (ofl f i + inl9 (wd f i) j + 1) (hy f (ofl f i + inl9 (wd f i) j + 1))) 4 (ofl f i + inl9 (wd f i) j + 1) (hz f (ofl f i + inl9 (wd f i) j + 1))) 1 4 (nI (ofl f i + inl9 (wd f i) j + 1 + 1)) = A5 at g5 g6 ⊢
              rw [c2, c3, c4]
              refine k77 A5 g6 ?_
              rw [v3, if_pos c_65]
              exact g5
        · have ej : j = 2 * wd f i + 1 := by omega
          have w4 := w2 ej
          refine pm_iload d8_38 rfl ?_
          refine pm_iload_n (i := 3) d8_40 rfl rfl ?_
          refine pm_icmp_gt (tgt := 83) d8_41 rfl (fun c_41 => ?_) (fun c_41 => ?_)
          · refine pm_iinc (L2 := [(0, _), (1, _), (2, _), (3, _), (4, _)]) d8_83 rfl t3 (by decide) rfl ?_
            refine pm_goto (tgt := 15) d8_86 rfl ?_
            refine pm_pick [0, 1, 2] (L2 := [(0, _), (1, _), (2, _)]) rfl ?_
            refine ih hlt A1 g1 ?_
            have e : ofl f (i + 1) = ofl f i + inl9 (wd f i) j := by
              rw [ej]
              show ofl f i + _ = _
              unfold inl9
              rw [if_neg (show ¬ 2 * wd f i + 1 = 0 by omega), if_neg (show ¬ 2 * wd f i + 1 ≤ 2 * wd f i by omega)]
            rw [e]
            exact g2
          · exact absurd w4 c_41
      refine pm_iload_n (i := 2) d8_15 rfl rfl ?_
      refine pm_aload_n (i := 0) d8_16 rfl rfl ?_
      refine pm_getE d8_17 lf_2_21 rfl rfl (g2.1) ?_
      refine pm_ineg d8_20 ?_
      refine pm_icmp_lt (tgt := 89) d8_21 rfl (fun c_21 => ?_) (fun c_21 => ?_)
      · exact absurd c_21 u1
      · refine pm_aload_n (i := 0) d8_24 rfl rfl ?_
        refine pm_getE d8_25 lf_2_21 rfl rfl (g2.1) ?_
        refine pm_iload_n (i := 2) d8_28 rfl rfl ?_
        refine pm_mabs d8_29 lm_2_28 (Nat.le_of_ble_eq_true rfl) (Nat.le_of_ble_eq_true rfl) ?_
        refine pm_isub d8_32 ?_
        rw [show nI f - (if 0 ≤ hH f i then hH f i else 0 - hH f i) = nI (wd f i) from u2]
        refine pm_istore_n (i := 3) (L2 := [(0, _), (1, _), (2, _), (3, _)]) d8_33 rfl (by decide) rfl ?_
        refine pm_iload_n (i := 3) d8_34 rfl rfl ?_
        refine pm_ineg d8_35 ?_
        refine pm_istore (L2 := [(0, _), (1, _), (2, _), (3, _), (4, _)]) d8_36 (by decide) rfl ?_
        have hd0 : -nI (wd f i) = hD (wd f i) 0 := by
          unfold hD
          rw [show nI 0 = 0 from rfl, Int32.add_zero]
        rw [hd0]
        exact inner 0 (Nat.zero_le _) A1 g1 g2
    · have ei : i = 2 * f + 1 := by omega
      have t4 := t2 ei
      refine pm_iload_n (i := 2) d8_15 rfl rfl ?_
      refine pm_aload_n (i := 0) d8_16 rfl rfl ?_
      refine pm_getE d8_17 lf_2_21 rfl rfl (g2.1) ?_
      refine pm_ineg d8_20 ?_
      refine pm_icmp_lt (tgt := 89) d8_21 rfl (fun c_21 => ?_) (fun c_21 => ?_)
      · refine pm_vret d8_89 rfl ?_
        refine h A1 g1 ?_
        rw [ei, bd_ofl h1 h6] at g2
        exact g2
      · exact absurd t4 c_21
  refine pm_aload_n (i := 0) d8_0 rfl rfl ?_
  refine pm_iload_n (i := 1) d8_1 rfl rfl ?_
  refine pm_putI d8_2 lp_2_21 rfl rfl ?_
  refine pm_aload_n (i := 0) d8_5 rfl rfl ?_
  refine pm_iconst (v := nI 0) d8_6 (by decide) ?_
  refine pm_putI d8_7 lp_2_25 rfl rfl ?_
  refine pm_aload_n (i := 0) d8_10 rfl rfl ?_
  refine pm_getE (v := nI f) d8_11 lf_2_21 rfl rfl (by simp [mset_get]) ?_
  refine pm_istore_n (i := 2) (L2 := [(0, _), (1, _), (2, _)]) d8_14 rfl (by decide) rfl ?_
  have e0 : nI f = hH f 0 := by
    unfold hH
    rw [show nI 0 = 0 from rfl, Int32.sub_zero]
  have := outer 0 (Nat.zero_le _) (mset (mset A 1 3 (nI f)) 1 4 (nI 0)) (fun c q1 q2 q3 q4 => by rw [mset_other q1, mset_other q1]) ⟨by simp [mset_get], by simp [mset_get, ofl], fun a ha => absurd ha (Nat.not_lt_zero a)⟩
  rw [← e0] at this
  exact this
