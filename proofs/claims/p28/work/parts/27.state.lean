/-! STATES AND THEIR HISTORY -/
theorem shp : ∀ i, i < 6 → (pm_sh 0)[25 + 2 * i]? = some (.inl (6, [none, none, none, none, none, none, some (25 + 2 * i + 1)])) ∧ (pm_sh 0)[25 + 2 * i + 1]? = some (.inr (2, 432)) := by
  intro i hi9
  rcases (show i = 0 ∨ i = 1 ∨ i = 2 ∨ i = 3 ∨ i = 4 ∨ i = 5 by omega) with rfl | rfl | rfl | rfl | rfl | rfl <;> exact ⟨rfl, rfl⟩
theorem e432 : (nI 432).toNatClampNeg = 432 := by decide
theorem sp_40 {A : Mem} {Q : Int32 → Mem → Prop} {b bm o om : Nat} (hb : (pm_sh 0)[b]? = some (.inl (6, [none, none, none, none, none, none, some bm]))) (hbm : (pm_sh 0)[bm]? = some (.inr (2, 432))) (ho : (pm_sh 0)[o]? = some (.inl (6, [none, none, none, none, none, none, some om]))) (hom : (pm_sh 0)[om]? = some (.inr (2, 432)))
    (n1 : om ≠ b) (n2 : o ≠ b) (n3 : o ≠ bm) (n4 : b ≠ bm) (hz : ∀ i, i < 432 → A om i = 0 ∨ A om i = 1) (h : ∀ A2 : Mem, (∀ c, c ≠ b → c ≠ bm → A2 c = A c) → (∀ j, j < 6 → A2 b j = A o j) → (∀ i, i < 432 → A2 bm i = A om i) → Q 0 A2) : pm_P 40 0 [(0, .ref b), (1, .ref o)] [] A Q := by
  refine pm_aload_n (i := 0) d40_0 rfl rfl ?_
  refine pm_aload_n (i := 1) d40_1 rfl rfl ?_
  refine pm_getI d40_2 lf_6_9 ho rfl ?_
  refine pm_putI d40_5 lp_6_9 hb rfl ?_
  refine pm_aload_n (i := 0) d40_8 rfl rfl ?_
  refine pm_aload_n (i := 1) d40_9 rfl rfl ?_
  refine pm_getI d40_10 lf_6_15 ho rfl ?_
  refine pm_putI d40_13 lp_6_15 hb rfl ?_
  refine pm_aload_n (i := 0) d40_16 rfl rfl ?_
  refine pm_aload_n (i := 1) d40_17 rfl rfl ?_
  refine pm_getI d40_18 lf_6_18 ho rfl ?_
  refine pm_putI d40_21 lp_6_18 hb rfl ?_
  refine pm_aload_n (i := 0) d40_24 rfl rfl ?_
  refine pm_aload_n (i := 1) d40_25 rfl rfl ?_
  refine pm_getI d40_26 lf_6_21 ho rfl ?_
  refine pm_putI d40_29 lp_6_21 hb rfl ?_
  refine pm_aload_n (i := 0) d40_32 rfl rfl ?_
  refine pm_aload_n (i := 1) d40_33 rfl rfl ?_
  refine pm_getI d40_34 lf_6_24 ho rfl ?_
  refine pm_putI d40_37 lp_6_24 hb rfl ?_
  refine pm_aload_n (i := 0) d40_40 rfl rfl ?_
  refine pm_aload_n (i := 1) d40_41 rfl rfl ?_
  refine pm_getI d40_42 lf_6_27 ho rfl ?_
  refine pm_putI d40_45 lp_6_27 hb rfl ?_
  refine pm_aload_n (i := 1) d40_48 rfl rfl ?_
  refine pm_getR d40_49 lf_6_30 ho rfl ?_
  refine pm_iconst (v := nI 0) d40_52 (by decide) ?_
  refine pm_aload_n (i := 0) d40_53 rfl rfl ?_
  refine pm_getR d40_54 lf_6_30 hb rfl ?_
  refine pm_iconst (v := nI 0) d40_57 (by decide) ?_
  refine pm_sipush (v := nI 432) d40_58 (by decide) ?_
  refine pm_copyz d40_61 la_6_34 hom hbm (by decide) (by decide) (by decide) ((fun i hi9 => by rw [e432] at hi9; simp only [mset_other n1]; exact hz i hi9)) (Nat.le_of_ble_eq_true rfl) (Nat.le_of_ble_eq_true rfl) ?_
  refine pm_vret d40_64 rfl ?_
  rw [e432]
  refine h _ (fun c q1 q2 => ?_) (fun j hj => ?_) (fun i hi9 => ?_)
  · funext q
    simp only [q2, false_and, if_false]
    simp only [mset_other q1]
  · simp only [n4, false_and, if_false]
    rcases (show j = 0 ∨ j = 1 ∨ j = 2 ∨ j = 3 ∨ j = 4 ∨ j = 5 by omega) with rfl | rfl | rfl | rfl | rfl | rfl <;> simp [mset_get, n2]
  · simp only [true_and, if_pos hi9]
    simp only [mset_other n1]
theorem sp_41 {A : Mem} {Q : Int32 → Mem → Prop} {k c : Nat} (hk : k < 432) (hc : A 21 5 = nI c) (h : Q 0 (mset (mset A 22 k (nI 1)) 21 5 (nI (c + 1)))) : pm_P 41 0 [(0, .ref 21), (1, .int (nI k))] [] A Q := by
  refine pm_aload_n (i := 0) d41_0 rfl rfl ?_
  refine pm_getR d41_1 lf_6_30 rfl rfl ?_
  refine pm_iload_n (i := 1) d41_4 rfl rfl ?_
  refine pm_iconst (v := nI 1) d41_5 (by decide) ?_
  refine pm_zastN d41_6 rfl (by decide) (by omega) rfl ?_
  refine pm_aload_n (i := 0) d41_7 rfl rfl ?_
  refine pm_dup d41_8 rfl ?_
  refine pm_getE (v := nI c) d41_9 lf_6_27 rfl rfl (by rw [mset_other (by decide), hc]) ?_
  refine pm_iconst (v := nI 1) d41_12 (by decide) ?_
  first | refine pm_iaddN d41_13 ?_ | refine pm_iadd d41_13 ?_
  refine pm_putI d41_14 lp_6_27 rfl rfl ?_
  refine pm_vret d41_17 rfl ?_
  exact h
theorem sp_42 {A : Mem} {Q : Int32 → Mem → Prop} {k c : Nat} (hk : k < 432) (h1 : 1 ≤ c) (hc : A 21 5 = nI c) (h : Q 0 (mset (mset A 22 k (nI 0)) 21 5 (nI (c - 1)))) : pm_P 42 0 [(0, .ref 21), (1, .int (nI k))] [] A Q := by
  refine pm_aload_n (i := 0) d42_0 rfl rfl ?_
  refine pm_getR d42_1 lf_6_30 rfl rfl ?_
  refine pm_iload_n (i := 1) d42_4 rfl rfl ?_
  refine pm_iconst (v := nI 0) d42_5 (by decide) ?_
  refine pm_zastN d42_6 rfl (by decide) (by omega) rfl ?_
  refine pm_aload_n (i := 0) d42_7 rfl rfl ?_
  refine pm_dup d42_8 rfl ?_
  refine pm_getE (v := nI c) d42_9 lf_6_27 rfl rfl (by rw [mset_other (by decide), hc]) ?_
  refine pm_iconst (v := nI 1) d42_12 (by decide) ?_
  first | refine pm_isubN d42_13 (by omega) ?_ | refine pm_isub d42_13 ?_
  refine pm_putI d42_14 lp_6_27 rfl rfl ?_
  refine pm_vret d42_17 rfl ?_
  exact h
theorem sp_43 {A : Mem} {Q : Int32 → Mem → Prop} (h : ∀ A2 : Mem, (∀ c, c ≠ 21 → c ≠ 22 → A2 c = A c) → (∀ j, j ≠ 5 → A2 21 j = A 21 j) → A2 21 5 = nI 0 → (∀ i, i < 432 → A2 22 i = nI 0) → Q 0 A2) : pm_P 43 0 [(0, .ref 21)] [] A Q := by
  have lp : ∀ i, i ≤ 432 → ∀ A1 : Mem, (∀ c, c ≠ 22 → A1 c = A c) → (∀ j, j < i → A1 22 j = nI 0) → pm_P 43 2 [(0, .ref 21), (1, .int (nI i))] [] A1 Q := by
    refine up_ind (fun i hi9 ih A1 g1 g2 => ?_)
    refine pm_iload_n (i := 1) d43_2 rfl rfl ?_
    refine pm_sipush (v := nI 432) d43_3 (by decide) ?_
    first | refine pm_icmp_geN (tgt := 22) d43_6 rfl (by omega) (by omega) (fun c_6 => ?_) (fun c_6 => ?_) | refine pm_icmp_ge (tgt := 22) d43_6 rfl (fun c_6 => ?_) (fun c_6 => ?_)
    · refine pm_aload_n (i := 0) d43_22 rfl rfl ?_
      refine pm_iconst (v := nI 0) d43_23 (by decide) ?_
      refine pm_putI d43_24 lp_6_27 rfl rfl ?_
      refine pm_vret d43_27 rfl ?_
      refine h _ (fun c q1 q2 => by rw [mset_other q1]; exact g1 c q2) (fun j hj => ?_) (by simp [mset_get]) (fun i2 hi2 => ?_)
      · rw [mset_ne hj, g1 21 (by decide)]
      · rw [mset_other (by decide)]
        exact g2 i2 (by omega)
    · refine pm_aload_n (i := 0) d43_9 rfl rfl ?_
      refine pm_getR d43_10 lf_6_30 rfl rfl ?_
      refine pm_iload_n (i := 1) d43_13 rfl rfl ?_
      refine pm_iconst (v := nI 0) d43_14 (by decide) ?_
      refine pm_zastN d43_15 rfl (by decide) (by omega) rfl ?_
      first | refine pm_iincN 1 (L2 := [(0, _), (1, _)]) d43_16 rfl (by decide) rfl ?_ | refine pm_iinc (L2 := [(0, _), (1, _)]) d43_16 rfl rfl (by decide) rfl ?_
      refine pm_goto (tgt := 2) d43_19 rfl ?_
      refine ih c_6 _ (fun c q1 => by rw [mset_other q1]; exact g1 c q1) (fun j hj => ?_)
      by_cases e : j = i
      · rw [e, mset_at]
      · rw [mset_ne e]; exact g2 j (by omega)
  refine pm_iconst (v := nI 0) d43_0 (by decide) ?_
  refine pm_istore_n (i := 1) (L2 := [(0, _), (1, _)]) d43_1 rfl (by decide) rfl ?_
  exact lp 0 (Nat.zero_le _) A (fun _ _ => rfl) (fun j hj => by omega)
/-- a history: how many states, which -/
abbrev Hst : Type := Nat × (Nat → Stt)
def hpush (H : Hst) (s : Stt) : Hst := if H.1 < 6 then (H.1 + 1, uN H.2 H.1 s) else (6, uN (fun j => H.2 (j + 1)) 5 s)
/-- the cells of the six states, in the order in which the row has them -/
def HO (pl : Nat → Nat) : Prop := (∀ j, j < 6 → ∃ i, i < 6 ∧ pl j = 25 + 2 * i) ∧ ∀ i j, i < 6 → j < 6 → pl i = pl j → i = j
def HA (n : Nat) (A : Mem) (pl : Nat → Nat) : Prop := A 23 1 = nI n ∧ ∀ j, j < 6 → A 24 j = nI (pl j)
def HI (H : Hst) (A : Mem) : Prop := H.1 ≤ 6 ∧ ∃ pl, HO pl ∧ HA H.1 A pl ∧ ∀ j, j < H.1 → SA (pl j) (H.2 j) A ∧ okS (H.2 j)
theorem HO_bd {pl : Nat → Nat} (h : HO pl) {j : Nat} (hj : j < 6) : 25 ≤ pl j ∧ pl j ≤ 35 ∧ (pm_sh 0)[pl j]? = some (.inl (6, [none, none, none, none, none, none, some (pl j + 1)])) ∧ (pm_sh 0)[pl j + 1]? = some (.inr (2, 432)) := by
  obtain ⟨i, hi9, e⟩ := h.1 j hj
  have := shp i hi9
  rw [e]
  exact ⟨by omega, by omega, this.1, this.2⟩
theorem HO_ne {pl : Nat → Nat} (h : HO pl) {i j : Nat} (hi9 : i < 6) (hj : j < 6) (hij : ¬ i = j) : pl i ≠ pl j ∧ pl i ≠ pl j + 1 ∧ pl i + 1 ≠ pl j ∧ pl i + 1 ≠ pl j + 1 := by
  obtain ⟨a, ha, ea⟩ := h.1 i hi9
  obtain ⟨b, hb, eb⟩ := h.1 j hj
  have := h.2 i j hi9 hj
  refine ⟨fun q => hij (this q), by omega, by omega, fun q => hij (this (by omega))⟩
theorem HI_keep {H : Hst} {A A2 : Mem} (h : HI H A) (hk : ∀ c, 23 ≤ c → c ≤ 36 → A2 c = A c) : HI H A2 := by
  obtain ⟨h1, pl, h2, h3, h4⟩ := h
  refine ⟨h1, pl, h2, ?_, fun j hj => ?_⟩
  · unfold HA at *
    rw [hk 23 (by omega) (by omega), hk 24 (by omega) (by omega)]
    exact h3
  · have hb := HO_bd h2 (j := j) (by omega)
    refine ⟨?_, (h4 j hj).2⟩
    have := (h4 j hj).1
    unfold SA at *
    rw [hk (pl j) (by omega) (by omega), hk (pl j + 1) (by omega) (by omega)]
    exact this
theorem SA_copy {b o : Nat} {s : Stt} {A A2 : Mem} (h : SA o s A) (h1 : ∀ j, j < 6 → A2 b j = A o j) (h2 : ∀ i, i < 432 → A2 (b + 1) i = A (o + 1) i) : SA b s A2 := by
  unfold SA at *
  rw [h1 0 (by omega), h1 1 (by omega), h1 2 (by omega), h1 3 (by omega), h1 4 (by omega), h1 5 (by omega)]
  exact ⟨h.1, h.2.1, h.2.2.1, h.2.2.2.1, h.2.2.2.2.1, h.2.2.2.2.2.1, fun i hi9 => by rw [h2 i hi9]; exact h.2.2.2.2.2.2 i hi9⟩
theorem SA_z {o : Nat} {s : Stt} {A : Mem} (h : SA o s A) : ∀ i, i < 432 → A (o + 1) i = 0 ∨ A (o + 1) i = 1 := by
  intro i hi9
  rw [h.2.2.2.2.2.2 i hi9]
  cases sM s i
  · exact Or.inl rfl
  · exact Or.inr rfl
theorem SA_keep {o : Nat} {s : Stt} {A A2 : Mem} (h : SA o s A) (h1 : A2 o = A o) (h2 : A2 (o + 1) = A (o + 1)) : SA o s A2 := by
  unfold SA at *
  rw [h1, h2]
  exact h
theorem sp_5 {A : Mem} {Q : Int32 → Mem → Prop} {n : Nat} {pl : Nat → Nat} (hn : 1 ≤ n) (hn6 : n ≤ 6) (hO : HO pl) (hA : HA n A pl) (h : ∀ A2 : Mem, (∀ c, c ≠ 23 → c ≠ 24 → A2 c = A c) → HA (n - 1) A2 (fun j => if j < 5 then pl (j + 1) else pl 0) → Q 0 A2) : pm_P 5 0 [(0, .ref 23)] [] A Q := by
  obtain ⟨p0, hp0⟩ : ∃ p0, p0 = pl 0 := ⟨_, rfl⟩
  have b0 := HO_bd hO (j := 0) (by omega)
  rw [← hp0] at b0
  obtain ⟨b01, b02, hs0, -⟩ := b0
  have lp : ∀ i, i ≤ 6 → ∀ A1 : Mem, 1 ≤ i → (∀ c, c ≠ 24 → A1 c = A c) → (∀ j, j < 6 → A1 24 j = nI (if j + 1 < i then pl (j + 1) else pl j)) → pm_P 5 9 [(0, .ref 23), (1, .ref p0), (2, .int (nI i))] [] A1 Q := by
    refine up_ind (fun i hi9 ih A1 h1i g1 g2 => ?_)
    by_cases hlt : i < 6
    · obtain ⟨p, hp⟩ : ∃ p, p = pl i := ⟨_, rfl⟩
      have b1 := HO_bd hO hlt
      rw [← hp] at b1
      obtain ⟨b11, b12, hs1, -⟩ := b1
      have gi := g2 i hlt
      rw [if_neg (by omega), ← hp] at gi
      refine pm_iload_n (i := 2) d5_9 rfl rfl ?_
      refine pm_bipush (v := nI 6) d5_10 (by decide) ?_
      first | refine pm_icmp_geN (tgt := 35) d5_12 rfl (by omega) (by omega) (fun c_12 => ?_) (fun c_12 => ?_) | refine pm_icmp_ge (tgt := 35) d5_12 rfl (fun c_12 => ?_) (fun c_12 => ?_)
      · omega
      · refine pm_aload_n (i := 0) d5_15 rfl rfl ?_
        refine pm_getR d5_16 lf_1_11 rfl rfl ?_
        refine pm_iload_n (i := 2) d5_19 rfl rfl ?_
        refine pm_iconst (v := nI 1) d5_20 (by decide) ?_
        first | refine pm_isubN d5_21 (by omega) ?_ | refine pm_isub d5_21 ?_
        refine pm_aload_n (i := 0) d5_22 rfl rfl ?_
        refine pm_getR d5_23 lf_1_11 rfl rfl ?_
        refine pm_iload_n (i := 2) d5_26 rfl rfl ?_
        refine pm_aaldN (t := p) d5_27 rfl (by decide) (by omega) gi (by omega) ?_
        refine pm_aastN d5_28 rfl hs1 (by omega) (by decide) (by omega) ?_
        first | refine pm_iincN 1 (L2 := [(0, _), (1, _), (2, _)]) d5_29 rfl (by decide) rfl ?_ | refine pm_iinc (L2 := [(0, _), (1, _), (2, _)]) d5_29 rfl rfl (by decide) rfl ?_
        refine pm_goto (tgt := 9) d5_32 rfl ?_
        refine ih hlt _ (by omega) (fun c q1 => by rw [mset_other q1]; exact g1 c q1) (fun j hj => ?_)
        by_cases e : j = i - 1
        · rw [e, mset_at, if_pos (by omega), show i - 1 + 1 = i by omega, hp]
        · rw [mset_ne e, g2 j hj]
          by_cases e2 : j + 1 < i
          · rw [if_pos e2, if_pos (by omega)]
          · rw [if_neg e2, if_neg (by omega)]
    · skip
      refine pm_iload_n (i := 2) d5_9 rfl rfl ?_
      refine pm_bipush (v := nI 6) d5_10 (by decide) ?_
      first | refine pm_icmp_geN (tgt := 35) d5_12 rfl (by omega) (by omega) (fun c_12 => ?_) (fun c_12 => ?_) | refine pm_icmp_ge (tgt := 35) d5_12 rfl (fun c_12 => ?_) (fun c_12 => ?_)
      · refine pm_aload_n (i := 0) d5_35 rfl rfl ?_
        refine pm_getR d5_36 lf_1_11 rfl rfl ?_
        refine pm_iconst (v := nI 5) d5_39 (by decide) ?_
        refine pm_aload_n (i := 1) d5_40 rfl rfl ?_
        refine pm_aastN d5_41 rfl hs0 (by omega) (by decide) (by omega) ?_
        refine pm_aload_n (i := 0) d5_42 rfl rfl ?_
        refine pm_dup d5_43 rfl ?_
        refine pm_getE (v := nI n) d5_44 lf_1_18 rfl rfl (by rw [mset_other (by decide), g1 23 (by decide), hA.1]) ?_
        refine pm_iconst (v := nI 1) d5_47 (by decide) ?_
        first | refine pm_isubN d5_48 (by omega) ?_ | refine pm_isub d5_48 ?_
        refine pm_putI d5_49 lp_1_18 rfl rfl ?_
        refine pm_vret d5_52 rfl ?_
        refine h _ (fun c q1 q2 => by rw [mset_other q1, mset_other q2]; exact g1 c q2) ⟨by simp [mset_get], fun j hj => ?_⟩
        rw [mset_other (by decide)]
        by_cases e : j = 5
        · rw [e, mset_at]
          show nI p0 = nI (pl 0)
          rw [hp0]
        · rw [mset_ne e, g2 j hj, if_pos (by omega)]
          simp only [if_pos (show j < 5 by omega)]
      · omega
  refine pm_aload_n (i := 0) d5_0 rfl rfl ?_
  refine pm_getR d5_1 lf_1_11 rfl rfl ?_
  refine pm_iconst (v := nI 0) d5_4 (by decide) ?_
  refine pm_aaldN (t := p0) d5_5 rfl (by decide) (by omega) (by rw [hp0]; exact hA.2 0 (by omega)) (by omega) ?_
  refine pm_astore_n (i := 1) (L2 := [(0, _), (1, _)]) d5_6 rfl (by decide) rfl ?_
  refine pm_iconst (v := nI 1) d5_7 (by decide) ?_
  refine pm_istore_n (i := 2) (L2 := [(0, _), (1, _), (2, _)]) d5_8 rfl (by decide) rfl ?_
  refine lp 1 (by omega) A (Nat.le_refl 1) (fun _ _ => rfl) (fun j hj => ?_)
  rw [if_neg (by omega)]
  exact hA.2 j hj
theorem HO_rot {pl : Nat → Nat} (h : HO pl) : HO (fun j => if j < 5 then pl (j + 1) else pl 0) := by
  refine ⟨fun j hj => ?_, fun i j hi9 hj e => ?_⟩
  · by_cases q : j < 5
    · simp only [if_pos q]; exact h.1 _ (by omega)
    · simp only [if_neg q]; exact h.1 0 (by omega)
  · by_cases q : i < 5
    · by_cases q2 : j < 5
      · simp only [if_pos q, if_pos q2] at e
        have := h.2 _ _ (by omega) (by omega) e
        omega
      · simp only [if_pos q, if_neg q2] at e
        have := h.2 _ _ (by omega) (by omega) e
        omega
    · by_cases q2 : j < 5
      · simp only [if_neg q, if_pos q2] at e
        have := h.2 _ _ (by omega) (by omega) e
        omega
      · omega
theorem sp_4 {H : Hst} {s : Stt} {A : Mem} {Q : Int32 → Mem → Prop} (hH : HI H A) (hs : SA 21 s A) (ho : okS s) (h : ∀ A2 : Mem, (∀ c, c < 23 ∨ 36 < c → A2 c = A c) → HI (hpush H s) A2 → Q 0 A2) : pm_P 4 0 [(0, .ref 23), (1, .ref 21)] [] A Q := by
  obtain ⟨h1, pl, h2, h3, h4⟩ := hH
  have k13 : ∀ (n : Nat) (pl2 : Nat → Nat) (st : Nat → Stt) (A1 : Mem), n ≤ 5 → HO pl2 → HA n A1 pl2 → (∀ c, c < 23 ∨ 36 < c → A1 c = A c) → (∀ j, j < n → SA (pl2 j) (st j) A1 ∧ okS (st j)) → hpush H s = (n + 1, uN st n s) → pm_P 4 13 [(0, .ref 23), (1, .ref 21)] [] A1 Q := by
    intro n pl2 st A1 hn hO hA hfr hst hpu
    obtain ⟨p, hp⟩ : ∃ p, p = pl2 n := ⟨_, rfl⟩
    obtain ⟨b1, b2, hs1, hs2⟩ := HO_bd hO (j := n) (by omega)
    rw [← hp] at b1 b2 hs1 hs2
    have hs1c : SA 21 s A1 := SA_keep hs (hfr 21 (by omega)) (hfr 22 (by omega))
    refine pm_aload_n (i := 0) d4_13 rfl rfl ?_
    refine pm_getR d4_14 lf_1_11 rfl rfl ?_
    refine pm_aload_n (i := 0) d4_17 rfl rfl ?_
    refine pm_getE d4_18 lf_1_18 rfl rfl (hA.1) ?_
    refine pm_aaldN (t := p) d4_21 rfl (by decide) (by omega) (by rw [hp]; exact hA.2 n (by omega)) (by omega) ?_
    refine pm_aload_n (i := 1) d4_22 rfl rfl ?_
    refine pm_callVv (k2 := 40) (As := [_]) d4_23 lk_1_25 ok_40 rfl rfl rfl (Nat.le_of_ble_eq_true rfl) rfl rfl hs1 rfl rfl ⟨Nat.le_of_ble_eq_true rfl, Nat.le_of_ble_eq_true rfl⟩ (Nat.le_of_ble_eq_true rfl) ?_
    refine sp_40 hs1 hs2 (o := 21) (om := 22) rfl rfl (by omega) (by omega) (by omega) (by omega) (SA_z hs1c) (fun A2 f1 f2 f3 => ?_)
    refine pm_aload_n (i := 0) d4_26 rfl rfl ?_
    refine pm_dup d4_27 rfl ?_
    refine pm_getE (v := nI n) d4_28 lf_1_18 rfl rfl (by rw [f1 23 (by omega) (by omega), hA.1]) ?_
    refine pm_iconst (v := nI 1) d4_31 (by decide) ?_
    first | refine pm_iaddN d4_32 ?_ | refine pm_iadd d4_32 ?_
    refine pm_putI d4_33 lp_1_18 rfl rfl ?_
    refine pm_vret d4_36 rfl ?_
    refine h _ (fun c hc => by rw [mset_other (by omega), f1 c (by omega) (by omega)]; exact hfr c hc) ?_
    rw [hpu]
    refine ⟨by show n + 1 ≤ 6; omega, pl2, hO, ⟨by simp [mset_get], fun j hj => ?_⟩, fun j hj => ?_⟩
    · rw [mset_other (by decide), f1 24 (by omega) (by omega)]
      exact hA.2 j hj
    · dsimp only at hj ⊢
      by_cases e : j = n
      · rw [e, uN_at, ← hp]
        refine ⟨SA_copy hs1c (fun q hq => ?_) (fun q hq => ?_), ho⟩
        · rw [mset_other (by omega)]; exact f2 q hq
        · rw [mset_other (by omega)]; exact f3 q hq
      · rw [uN_ne e]
        have hne := HO_ne hO (i := j) (j := n) (by omega) (by omega) e
        rw [← hp] at hne
        have hbj := HO_bd hO (j := j) (by omega)
        refine ⟨SA_keep (hst j (by omega)).1 ?_ ?_, (hst j (by omega)).2⟩
        · rw [mset_other (by omega), f1 _ hne.1 hne.2.1]
        · rw [mset_other (by omega), f1 _ hne.2.2.1 hne.2.2.2]
  refine pm_aload_n (i := 0) d4_0 rfl rfl ?_
  refine pm_getE d4_1 lf_1_18 rfl rfl (h3.1) ?_
  refine pm_bipush (v := nI 6) d4_4 (by decide) ?_
  first | refine pm_icmp_ltN (tgt := 13) d4_6 rfl (by omega) (by omega) (fun c_6 => ?_) (fun c_6 => ?_) | refine pm_icmp_lt (tgt := 13) d4_6 rfl (fun c_6 => ?_) (fun c_6 => ?_)
  · exact k13 H.1 pl H.2 A (by omega) h2 h3 (fun _ _ => rfl) h4 (by unfold hpush; rw [if_pos c_6])
  · refine pm_aload_n (i := 0) d4_9 rfl rfl ?_
    refine pm_callVv (k2 := 5) (As := []) d4_10 lk_1_22 ok_5 rfl rfl rfl (Nat.le_of_ble_eq_true rfl) rfl rfl rfl rfl rfl ⟨Nat.le_of_ble_eq_true rfl, Nat.le_of_ble_eq_true rfl⟩ (Nat.le_of_ble_eq_true rfl) ?_
    refine sp_5 (by omega) h1 h2 h3 (fun A2 f1 f2 => ?_)
    have e6 : H.1 = 6 := by omega
    rw [e6] at f2
    refine k13 5 _ (fun j => H.2 (j + 1)) A2 (by omega) (HO_rot h2) f2 (fun c hc => f1 c (by omega) (by omega)) (fun j hj => ?_) (by unfold hpush; rw [if_neg (by omega)])
    rw [if_pos hj]
    have hb := HO_bd h2 (j := j + 1) (by omega)
    obtain ⟨q1, q2⟩ := h4 (j + 1) (by omega)
    exact ⟨SA_keep q1 (f1 _ (by omega) (by omega)) (f1 _ (by omega) (by omega)), q2⟩
theorem sp_6 {H : Hst} {A : Mem} {Q : Int32 → Mem → Prop} (hH : HI H A) (h0 : H.1 = 0 → Q (b2i false) A) (h : 0 < H.1 → ∀ A2 : Mem, (∀ c, c < 21 ∨ 36 < c → A2 c = A c) → HI (H.1 - 1, H.2) A2 → SA 21 (H.2 (H.1 - 1)) A2 → okS (H.2 (H.1 - 1)) → Q (b2i true) A2) : pm_P 6 0 [(0, .ref 23), (1, .ref 21)] [] A Q := by
  obtain ⟨h1, pl, h2, h3, h4⟩ := hH
  by_cases h0n : H.1 = 0
  · skip
    refine pm_aload_n (i := 0) d6_0 rfl rfl ?_
    refine pm_getE d6_1 lf_1_18 rfl rfl (h3.1) ?_
    first | refine pm_if_gtN (tgt := 9) d6_4 rfl (by omega) (fun c_4 => ?_) (fun c_4 => ?_) | refine pm_if_gt (tgt := 9) d6_4 rfl (fun c_4 => ?_) (fun c_4 => ?_)
    · omega
    · refine pm_iconst (v := nI 0) d6_7 (by decide) ?_
      refine pm_iret d6_8 rfl (by first | rfl | exact nar_b _) ?_
      exact h0 h0n
  · obtain ⟨p, hp⟩ : ∃ p, p = pl (H.1 - 1) := ⟨_, rfl⟩
    obtain ⟨b1, b2, hs1, hs2⟩ := HO_bd h2 (j := H.1 - 1) (by omega)
    rw [← hp] at b1 b2 hs1 hs2
    obtain ⟨q1, q2⟩ := h4 (H.1 - 1) (by omega)
    rw [← hp] at q1
    refine pm_aload_n (i := 0) d6_0 rfl rfl ?_
    refine pm_getE (v := nI H.1) d6_1 lf_1_18 rfl rfl (h3.1) ?_
    first | refine pm_if_gtN (tgt := 9) d6_4 rfl (by omega) (fun c_4 => ?_) (fun c_4 => ?_) | refine pm_if_gt (tgt := 9) d6_4 rfl (fun c_4 => ?_) (fun c_4 => ?_)
    · refine pm_aload_n (i := 0) d6_9 rfl rfl ?_
      refine pm_dup d6_10 rfl ?_
      refine pm_getE (v := nI H.1) d6_11 lf_1_18 rfl rfl (h3.1) ?_
      refine pm_iconst (v := nI 1) d6_14 (by decide) ?_
      first | refine pm_isubN d6_15 (by omega) ?_ | refine pm_isub d6_15 ?_
      refine pm_putI d6_16 lp_1_18 rfl rfl ?_
      refine pm_aload_n (i := 1) d6_19 rfl rfl ?_
      refine pm_aload_n (i := 0) d6_20 rfl rfl ?_
      refine pm_getR d6_21 lf_1_11 rfl rfl ?_
      refine pm_aload_n (i := 0) d6_24 rfl rfl ?_
      refine pm_getE (v := nI (H.1 - 1)) d6_25 lf_1_18 rfl rfl (by simp [mset_get]) ?_
      refine pm_aaldN (t := p) d6_28 rfl (by decide) (by omega) (by rw [hp, mset_other (by decide)]; exact h3.2 _ (by omega)) (by omega) ?_
      refine pm_callVv (k2 := 40) (As := [_]) d6_29 lk_1_25 ok_40 rfl rfl rfl (Nat.le_of_ble_eq_true rfl) rfl rfl rfl rfl rfl ⟨Nat.le_of_ble_eq_true rfl, Nat.le_of_ble_eq_true rfl⟩ (Nat.le_of_ble_eq_true rfl) ?_
      refine sp_40 (b := 21) (bm := 22) rfl rfl hs1 hs2 (by omega) (by omega) (by omega) (by omega) (fun i hi9 => by rw [mset_other (by omega)]; exact SA_z q1 i hi9) (fun A2 f1 f2 f3 => ?_)
      refine pm_iconst (v := nI 1) d6_32 (by decide) ?_
      refine pm_iret d6_33 rfl (by first | rfl | exact nar_b _) ?_
      have fa : ∀ c, c ≠ 21 → c ≠ 22 → c ≠ 23 → A2 c = A c := fun c g1 g2 g3 => by rw [f1 c g1 g2, mset_other g3]
      refine h (by omega) A2 (fun c hc => fa c (by omega) (by omega) (by omega)) ⟨by show H.1 - 1 ≤ 6; omega, pl, h2, ⟨?_, fun j hj => ?_⟩, fun j hj => ?_⟩ (SA_copy q1 (fun j hj => ?_) (fun i hi9 => ?_)) q2
      · rw [f1 23 (by omega) (by omega)]; simp [mset_get]
      · rw [fa 24 (by omega) (by omega) (by omega)]; exact h3.2 j hj
      · dsimp only at hj ⊢
        have hb := HO_bd h2 (j := j) (by omega)
        obtain ⟨x1, x2⟩ := h4 j (by omega)
        exact ⟨SA_keep x1 (fa _ (by omega) (by omega) (by omega)) (fa _ (by omega) (by omega) (by omega)), x2⟩
      · rw [f2 j hj, mset_other (by omega)]
      · rw [f3 i hi9, mset_other (by omega)]
    · omega
