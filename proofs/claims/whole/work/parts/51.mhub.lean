/-! THE REFERENCE'S CALLS ON HUBS -/
/-- how many links of hub a lead to hubs below n -/
def mlt (f a n : Nat) : Nat := cnt (fun j => Nat.blt (lh f (a * 6 + j)) n) (dg f a)
theorem tk_as : allF (fun f => allN (nh f) (fun a => allN (dg f a - 1) (fun j => Nat.blt (lh f (a * 6 + j)) (lh f (a * 6 + (j + 1)))))) = true := by decide +kernel
theorem bd_as {f a : Nat} (h1 : 1 ≤ f) (h6 : f ≤ 6) (ha : a < nh f) : ∀ d i, i + d + 1 < dg f a → lh f (a * 6 + i) < lh f (a * 6 + (i + d + 1)) := by
  have h0 := allN_of (allF_of tk_as h1 h6) ha
  have h1 : ∀ j, j + 1 < dg f a → lh f (a * 6 + j) < lh f (a * 6 + (j + 1)) := by
    intro j hj
    have h0 : allN (dg f a - 1) (fun j => Nat.blt (lh f (a * 6 + j)) (lh f (a * 6 + (j + 1)))) = true := h0
    have h2 := allN_of h0 (i := j) (by omega)
    rw [Nat.blt_eq] at h2
    exact h2
  intro d
  induction d with
  | zero => intro i hi9; exact h1 i hi9
  | succ d ih => intro i hi9; exact Nat.lt_trans (ih i (by omega)) (h1 (i + d + 1) (by omega))
theorem cnt_below {p : Nat → Bool} {d j : Nat} (h : ∀ i, i < d → (p i = true ↔ i < j)) (hj : j ≤ d) : cnt p d = j := by
  have key : ∀ n, n ≤ d → cnt p n = if n ≤ j then n else j := by
    intro n
    induction n with
    | zero => intro _; simp [cnt]
    | succ n ih =>
      intro hn
      by_cases q : n < j
      · rw [cnt_t ((h n (by omega)).mpr q), ih (by omega), if_pos (by omega), if_pos (by omega)]
      · have e : p n = false := by rw [← Bool.not_eq_true]; exact fun g => q ((h n (by omega)).mp g)
        rw [cnt_f e, ih (by omega), if_neg (show ¬ n + 1 ≤ j by omega)]
        by_cases q2 : n ≤ j
        · rw [if_pos q2]; omega
        · rw [if_neg q2]
  rw [key d (Nat.le_refl d)]
  by_cases q : d ≤ j
  · rw [if_pos q]; omega
  · rw [if_neg q]
theorem bd_ml {f a n : Nat} (h1 : 1 ≤ f) (h6 : f ≤ 6) (ha : a < nh f) (_hn : n < nh f) : (∃ st, btw f a n = some st ∧ mlt f a n < dg f a ∧ lh f (a * 6 + mlt f a n) = n ∧ lk f (a * 6 + mlt f a n) = st ∧ mlt f a (n + 1) = mlt f a n + 1) ∨ (btw f a n = none ∧ mlt f a (n + 1) = mlt f a n) := by
  have as2 : ∀ i j, i < j → j < dg f a → lh f (a * 6 + i) < lh f (a * 6 + j) := fun i j hij hj => by
    have := bd_as h1 h6 ha (j - i - 1) i (by omega)
    rwa [show i + (j - i - 1) + 1 = j by omega] at this
  cases e : fst (fun j => decide (lh f (a * 6 + j) = n)) (dg f a) with
  | none =>
    right
    refine ⟨by unfold btw; rw [e]; rfl, ?_⟩
    unfold mlt
    refine cnt_congr (fun j hj => ?_)
    have hne : ¬ lh f (a * 6 + j) = n := fun q => by
      rw [fst_min hj (decide_eq_true q) (fun k hk hq => by
        rcases Nat.lt_or_ge k j with g | g
        · have := as2 k j g hj
          have := of_decide_eq_true hq
          omega
        · exact g)] at e
      cases e
    rw [Bool.eq_iff_iff, Nat.blt_eq, Nat.blt_eq]
    omega
  | some j =>
    left
    obtain ⟨hj, hq⟩ := fst_lt e
    have hq := of_decide_eq_true hq
    have m1 : mlt f a n = j := cnt_below (fun i hi9 => by
      rw [Nat.blt_eq]
      constructor
      · intro g
        rcases Nat.lt_or_ge i j with q | q
        · exact q
        · by_cases ei : i = j
          · subst ei; omega
          · have := as2 j i (by omega) hi9; omega
      · intro g
        have := as2 i j g hj
        omega) (Nat.le_of_lt hj)
    have m2 : mlt f a (n + 1) = j + 1 := cnt_below (fun i hi9 => by
      rw [Nat.blt_eq]
      constructor
      · intro g
        rcases Nat.lt_or_ge i (j + 1) with q | q
        · exact q
        · have := as2 j i (by omega) hi9; omega
      · intro g
        by_cases ei : i = j
        · subst ei; omega
        · have := as2 i j (by omega) hj
          omega) hj
    rw [m1, m2]
    exact ⟨lk f (a * 6 + j), by unfold btw; rw [e]; rfl, hj, hq, rfl, rfl⟩
theorem mlt_0 (f a : Nat) : mlt f a 0 = 0 := cnt_non (fun j _ => by rw [← Bool.not_eq_true, Nat.blt_eq]; omega)
theorem mlt_n {f a : Nat} (h1 : 1 ≤ f) (h6 : f ≤ 6) (ha : a < nh f) : mlt f a (nh f) = dg f a := cnt_all (fun j hj => by rw [Nat.blt_eq]; exact ((bd_a h1 h6 ha).2 j hj).1)
theorem sp_145 {s : Stt} {A : Mem} {Q : Int32 → Mem → Prop} {a : Nat} (hI : MI s A) (ha : a < nh (sF s)) (h : Q (nI (dg (sF s) a)) A) : pm_P 145 0 [(0, .ref 0), (1, .int (nI a))] [] A Q := by
  have hb := MI_bd hI
  rw [← mlt_n hI.1.1 hI.1.2.1 ha] at h
  have lp : ∀ n, n ≤ nh (sF s) → pm_P 145 4 [(0, .ref 0), (1, .int (nI a)), (2, .int (nI (mlt (sF s) a n))), (3, .int (nI n))] [] A Q := by
    refine up_ind (fun n hn ih => ?_)
    by_cases hlt : n < nh (sF s)
    · have ih := ih hlt
      have e12 := MI_bt hI ha hlt
      rcases bd_ml hI.1.1 hI.1.2.1 ha hlt with ⟨st, g1, g2, g3, g4, g5⟩ | ⟨g1, g5⟩
      · have hst := btw_lt hI.1.1 hI.1.2.1 ha g1
        rw [g1] at e12
        rw [g5] at ih
        refine pm_iload_n (i := 3) d145_4 rfl rfl ?_
        refine pm_aload_n (i := 0) d145_5 rfl rfl ?_
        refine pm_getE d145_6 lf_11_76 rfl rfl (MI_nh hI) ?_
        first | refine pm_icmp_geN (tgt := 41) d145_9 rfl (by omega) (by omega) (fun c_9 => ?_) (fun c_9 => ?_) | refine pm_icmp_ge (tgt := 41) d145_9 rfl (fun c_9 => ?_) (fun c_9 => ?_)
        · omega
        · refine pm_iload_n (i := 2) d145_12 rfl rfl ?_
          refine pm_aload_n (i := 0) d145_13 rfl rfl ?_
          refine pm_getR d145_14 lf_11_44 rfl rfl ?_
          refine pm_sipush (v := nI 146) d145_17 (by decide) ?_
          refine pm_iload_n (i := 1) d145_20 rfl rfl ?_
          first | refine pm_imulN d145_21 ?_ | refine pm_imul d145_21 ?_
          refine pm_iload_n (i := 3) d145_22 rfl rfl ?_
          first | refine pm_iaddN d145_23 ?_ | refine pm_iadd d145_23 ?_
          refine pm_ialdN d145_24 rfl (by decide) (by omega) ?_
          rw [e12, show opI (-1) (some st) = nI st from rfl]
          refine pm_if_lt (tgt := 32) d145_25 rfl (fun c_25 => ?_) (fun c_25 => ?_)
          · exact absurd c_25 (nI_pos (by omega))
          · refine pm_iconst (v := nI 1) d145_28 (by decide) ?_
            refine pm_goto (tgt := 33) d145_29 rfl ?_
            first | refine pm_iaddN d145_33 ?_ | refine pm_iadd d145_33 ?_
            refine pm_istore_n (i := 2) (L2 := [(0, _), (1, _), (2, _), (3, _)]) d145_34 rfl (by decide) rfl ?_
            first | refine pm_iincN 1 (L2 := [(0, _), (1, _), (2, _), (3, _)]) d145_35 rfl (by decide) rfl ?_ | refine pm_iinc (L2 := [(0, _), (1, _), (2, _), (3, _)]) d145_35 rfl rfl (by decide) rfl ?_
            refine pm_goto (tgt := 4) d145_38 rfl ?_
            exact ih
      · rw [g1] at e12
        rw [g5] at ih
        refine pm_iload_n (i := 3) d145_4 rfl rfl ?_
        refine pm_aload_n (i := 0) d145_5 rfl rfl ?_
        refine pm_getE d145_6 lf_11_76 rfl rfl (MI_nh hI) ?_
        first | refine pm_icmp_geN (tgt := 41) d145_9 rfl (by omega) (by omega) (fun c_9 => ?_) (fun c_9 => ?_) | refine pm_icmp_ge (tgt := 41) d145_9 rfl (fun c_9 => ?_) (fun c_9 => ?_)
        · omega
        · refine pm_iload_n (i := 2) d145_12 rfl rfl ?_
          refine pm_aload_n (i := 0) d145_13 rfl rfl ?_
          refine pm_getR d145_14 lf_11_44 rfl rfl ?_
          refine pm_sipush (v := nI 146) d145_17 (by decide) ?_
          refine pm_iload_n (i := 1) d145_20 rfl rfl ?_
          first | refine pm_imulN d145_21 ?_ | refine pm_imul d145_21 ?_
          refine pm_iload_n (i := 3) d145_22 rfl rfl ?_
          first | refine pm_iaddN d145_23 ?_ | refine pm_iadd d145_23 ?_
          refine pm_ialdN d145_24 rfl (by decide) (by omega) ?_
          rw [e12, show opI (-1) none = -1 from rfl]
          refine pm_if_lt (tgt := 32) d145_25 rfl (fun c_25 => ?_) (fun c_25 => ?_)
          · refine pm_iconst (v := nI 0) d145_32 (by decide) ?_
            first | refine pm_iaddN d145_33 ?_ | refine pm_iadd d145_33 ?_
            refine pm_istore_n (i := 2) (L2 := [(0, _), (1, _), (2, _), (3, _)]) d145_34 rfl (by decide) rfl ?_
            first | refine pm_iincN 1 (L2 := [(0, _), (1, _), (2, _), (3, _)]) d145_35 rfl (by decide) rfl ?_ | refine pm_iinc (L2 := [(0, _), (1, _), (2, _), (3, _)]) d145_35 rfl rfl (by decide) rfl ?_
            refine pm_goto (tgt := 4) d145_38 rfl ?_
            exact ih
          · exact absurd (by decide) c_25
    · skip
      refine pm_iload_n (i := 3) d145_4 rfl rfl ?_
      refine pm_aload_n (i := 0) d145_5 rfl rfl ?_
      refine pm_getE d145_6 lf_11_76 rfl rfl (MI_nh hI) ?_
      first | refine pm_icmp_geN (tgt := 41) d145_9 rfl (by omega) (by omega) (fun c_9 => ?_) (fun c_9 => ?_) | refine pm_icmp_ge (tgt := 41) d145_9 rfl (fun c_9 => ?_) (fun c_9 => ?_)
      · refine pm_iload_n (i := 2) d145_41 rfl rfl ?_
        refine pm_iret d145_42 rfl (by first | rfl | exact nar_b _) ?_
        rw [show n = nh (sF s) by omega]
        exact h
      · omega
  refine pm_iconst (v := nI 0) d145_0 (by decide) ?_
  refine pm_istore_n (i := 2) (L2 := [(0, _), (1, _), (2, _)]) d145_1 rfl (by decide) rfl ?_
  refine pm_iconst (v := nI 0) d145_2 (by decide) ?_
  refine pm_istore_n (i := 3) (L2 := [(0, _), (1, _), (2, _), (3, _)]) d145_3 rfl (by decide) rfl ?_
  have := lp 0 (Nat.zero_le _)
  rw [mlt_0] at this
  exact this
theorem sp_146 {s : Stt} {A : Mem} {Q : Int32 → Mem → Prop} {a : Nat} (hI : MI s A) (ha : a < nh (sF s)) (h : Q (nI (dgr s a)) A) : pm_P 146 0 [(0, .ref 0), (1, .int (nI a))] [] A Q := by
  have hb := MI_bd hI
  unfold dgr at h
  generalize hp : (fun j => ks s (lk (sF s) (a * 6 + j)) && !sM s (lk (sF s) (a * 6 + j))) = p at h
  have hp : ∀ j, p j = (ks s (lk (sF s) (a * 6 + j)) && !sM s (lk (sF s) (a * 6 + j))) := fun j => by rw [← hp]
  rw [← mlt_n hI.1.1 hI.1.2.1 ha] at h
  have lp : ∀ n, n ≤ nh (sF s) → pm_P 146 4 [(0, .ref 0), (1, .int (nI a)), (2, .int (nI (cnt p (mlt (sF s) a n)))), (3, .int (nI n))] [] A Q := by
    refine up_ind (fun n hn ih => ?_)
    by_cases hlt : n < nh (sF s)
    · have ih := ih hlt
      have e12 := MI_bt hI ha hlt
      rcases bd_ml hI.1.1 hI.1.2.1 ha hlt with ⟨st, g1, g2, g3, g4, g5⟩ | ⟨g1, g5⟩
      · have hst := btw_lt hI.1.1 hI.1.2.1 ha g1
        have hpm := hp (mlt (sF s) a n)
        rw [g4] at hpm
        rw [g1] at e12
        rw [g5] at ih
        refine pm_iload_n (i := 3) d146_4 rfl rfl ?_
        refine pm_aload_n (i := 0) d146_5 rfl rfl ?_
        refine pm_getE d146_6 lf_11_76 rfl rfl (MI_nh hI) ?_
        first | refine pm_icmp_geN (tgt := 63) d146_9 rfl (by omega) (by omega) (fun c_9 => ?_) (fun c_9 => ?_) | refine pm_icmp_ge (tgt := 63) d146_9 rfl (fun c_9 => ?_) (fun c_9 => ?_)
        · omega
        · refine pm_aload_n (i := 0) d146_12 rfl rfl ?_
          refine pm_getR d146_13 lf_11_44 rfl rfl ?_
          refine pm_sipush (v := nI 146) d146_16 (by decide) ?_
          refine pm_iload_n (i := 1) d146_19 rfl rfl ?_
          first | refine pm_imulN d146_20 ?_ | refine pm_imul d146_20 ?_
          refine pm_iload_n (i := 3) d146_21 rfl rfl ?_
          first | refine pm_iaddN d146_22 ?_ | refine pm_iadd d146_22 ?_
          refine pm_ialdN d146_23 rfl (by decide) (by omega) ?_
          rw [e12, show opI (-1) (some st) = nI st from rfl]
          refine pm_istore (L2 := [(0, _), (1, _), (2, _), (3, _), (4, _)]) d146_24 (by decide) rfl ?_
          refine pm_iload_n (i := 2) d146_26 rfl rfl ?_
          refine pm_iload d146_27 rfl ?_
          refine pm_if_lt (tgt := 54) d146_29 rfl (fun c_29 => ?_) (fun c_29 => ?_)
          · exact absurd c_29 (nI_pos (by omega))
          · refine pm_aload_n (i := 0) d146_32 rfl rfl ?_
            refine pm_iload d146_33 rfl ?_
            refine pm_callV (k2 := 134) (As := [_]) d146_35 lk_11_166 ok_134 rfl rfl rfl (Nat.le_of_ble_eq_true rfl) rfl rfl rfl rfl rfl ⟨Nat.le_of_ble_eq_true rfl, Nat.le_of_ble_eq_true rfl⟩ (Nat.le_of_ble_eq_true rfl) ?_
            refine sp_134 hI hst ?_
            first | refine pm_if_eqB (tgt := 54) d146_38 rfl (fun c_38 => ?_) (fun c_38 => ?_) | refine pm_if_eqN (tgt := 54) d146_38 rfl (by omega) (fun c_38 => ?_) (fun c_38 => ?_) | refine pm_if_eq (tgt := 54) d146_38 rfl (fun c_38 => ?_) (fun c_38 => ?_)
            · refine pm_iconst (v := nI 0) d146_54 (by decide) ?_
              first | refine pm_iaddN d146_55 ?_ | refine pm_iadd d146_55 ?_
              refine pm_istore_n (i := 2) (L2 := [(0, _), (1, _), (2, _), (3, _), (4, _)]) d146_56 rfl (by decide) rfl ?_
              first | refine pm_iincN 1 (L2 := [(0, _), (1, _), (2, _), (3, _), (4, _)]) d146_57 rfl (by decide) rfl ?_ | refine pm_iinc (L2 := [(0, _), (1, _), (2, _), (3, _), (4, _)]) d146_57 rfl rfl (by decide) rfl ?_
              refine pm_goto (tgt := 4) d146_60 rfl ?_
              refine pm_pick [0, 1, 2, 3] (L2 := [(0, _), (1, _), (2, _), (3, _)]) rfl ?_
              rw [cnt_f (by rw [hpm, c_38, Bool.false_and])] at ih
              exact ih
            · refine pm_aload_n (i := 0) d146_41 rfl rfl ?_
              refine pm_iload d146_42 rfl ?_
              refine pm_callV (k2 := 135) (As := [_]) d146_44 lk_11_163 ok_135 rfl rfl rfl (Nat.le_of_ble_eq_true rfl) rfl rfl rfl rfl rfl ⟨Nat.le_of_ble_eq_true rfl, Nat.le_of_ble_eq_true rfl⟩ (Nat.le_of_ble_eq_true rfl) ?_
              refine sp_135 hI (by omega) ?_
              first | refine pm_if_neB (tgt := 54) d146_47 rfl (fun c_47 => ?_) (fun c_47 => ?_) | refine pm_if_neN (tgt := 54) d146_47 rfl (by omega) (fun c_47 => ?_) (fun c_47 => ?_) | refine pm_if_ne (tgt := 54) d146_47 rfl (fun c_47 => ?_) (fun c_47 => ?_)
              · refine pm_iconst (v := nI 0) d146_54 (by decide) ?_
                first | refine pm_iaddN d146_55 ?_ | refine pm_iadd d146_55 ?_
                refine pm_istore_n (i := 2) (L2 := [(0, _), (1, _), (2, _), (3, _), (4, _)]) d146_56 rfl (by decide) rfl ?_
                first | refine pm_iincN 1 (L2 := [(0, _), (1, _), (2, _), (3, _), (4, _)]) d146_57 rfl (by decide) rfl ?_ | refine pm_iinc (L2 := [(0, _), (1, _), (2, _), (3, _), (4, _)]) d146_57 rfl rfl (by decide) rfl ?_
                refine pm_goto (tgt := 4) d146_60 rfl ?_
                refine pm_pick [0, 1, 2, 3] (L2 := [(0, _), (1, _), (2, _), (3, _)]) rfl ?_
                rw [cnt_f (by rw [hpm, c_47, Bool.not_true, Bool.and_false])] at ih
                exact ih
              · refine pm_iconst (v := nI 1) d146_50 (by decide) ?_
                refine pm_goto (tgt := 55) d146_51 rfl ?_
                first | refine pm_iaddN d146_55 ?_ | refine pm_iadd d146_55 ?_
                refine pm_istore_n (i := 2) (L2 := [(0, _), (1, _), (2, _), (3, _), (4, _)]) d146_56 rfl (by decide) rfl ?_
                first | refine pm_iincN 1 (L2 := [(0, _), (1, _), (2, _), (3, _), (4, _)]) d146_57 rfl (by decide) rfl ?_ | refine pm_iinc (L2 := [(0, _), (1, _), (2, _), (3, _), (4, _)]) d146_57 rfl rfl (by decide) rfl ?_
                refine pm_goto (tgt := 4) d146_60 rfl ?_
                refine pm_pick [0, 1, 2, 3] (L2 := [(0, _), (1, _), (2, _), (3, _)]) rfl ?_
                rw [cnt_t (by rw [hpm, c_38, c_47]; rfl)] at ih
                exact ih
      · rw [g1] at e12
        rw [g5] at ih
        refine pm_iload_n (i := 3) d146_4 rfl rfl ?_
        refine pm_aload_n (i := 0) d146_5 rfl rfl ?_
        refine pm_getE d146_6 lf_11_76 rfl rfl (MI_nh hI) ?_
        first | refine pm_icmp_geN (tgt := 63) d146_9 rfl (by omega) (by omega) (fun c_9 => ?_) (fun c_9 => ?_) | refine pm_icmp_ge (tgt := 63) d146_9 rfl (fun c_9 => ?_) (fun c_9 => ?_)
        · omega
        · refine pm_aload_n (i := 0) d146_12 rfl rfl ?_
          refine pm_getR d146_13 lf_11_44 rfl rfl ?_
          refine pm_sipush (v := nI 146) d146_16 (by decide) ?_
          refine pm_iload_n (i := 1) d146_19 rfl rfl ?_
          first | refine pm_imulN d146_20 ?_ | refine pm_imul d146_20 ?_
          refine pm_iload_n (i := 3) d146_21 rfl rfl ?_
          first | refine pm_iaddN d146_22 ?_ | refine pm_iadd d146_22 ?_
          refine pm_ialdN d146_23 rfl (by decide) (by omega) ?_
          rw [e12, show opI (-1) none = -1 from rfl]
          refine pm_istore (L2 := [(0, _), (1, _), (2, _), (3, _), (4, _)]) d146_24 (by decide) rfl ?_
          refine pm_iload_n (i := 2) d146_26 rfl rfl ?_
          refine pm_iload d146_27 rfl ?_
          refine pm_if_lt (tgt := 54) d146_29 rfl (fun c_29 => ?_) (fun c_29 => ?_)
          · refine pm_iconst (v := nI 0) d146_54 (by decide) ?_
            first | refine pm_iaddN d146_55 ?_ | refine pm_iadd d146_55 ?_
            refine pm_istore_n (i := 2) (L2 := [(0, _), (1, _), (2, _), (3, _), (4, _)]) d146_56 rfl (by decide) rfl ?_
            first | refine pm_iincN 1 (L2 := [(0, _), (1, _), (2, _), (3, _), (4, _)]) d146_57 rfl (by decide) rfl ?_ | refine pm_iinc (L2 := [(0, _), (1, _), (2, _), (3, _), (4, _)]) d146_57 rfl rfl (by decide) rfl ?_
            refine pm_goto (tgt := 4) d146_60 rfl ?_
            refine pm_pick [0, 1, 2, 3] (L2 := [(0, _), (1, _), (2, _), (3, _)]) rfl ?_
            exact ih
          · exact absurd (by decide) c_29
    · skip
      refine pm_iload_n (i := 3) d146_4 rfl rfl ?_
      refine pm_aload_n (i := 0) d146_5 rfl rfl ?_
      refine pm_getE d146_6 lf_11_76 rfl rfl (MI_nh hI) ?_
      first | refine pm_icmp_geN (tgt := 63) d146_9 rfl (by omega) (by omega) (fun c_9 => ?_) (fun c_9 => ?_) | refine pm_icmp_ge (tgt := 63) d146_9 rfl (fun c_9 => ?_) (fun c_9 => ?_)
      · refine pm_iload_n (i := 2) d146_63 rfl rfl ?_
        refine pm_iret d146_64 rfl (by first | rfl | exact nar_b _) ?_
        rw [show n = nh (sF s) by omega]
        exact h
      · omega
  refine pm_iconst (v := nI 0) d146_0 (by decide) ?_
  refine pm_istore_n (i := 2) (L2 := [(0, _), (1, _), (2, _)]) d146_1 rfl (by decide) rfl ?_
  refine pm_iconst (v := nI 0) d146_2 (by decide) ?_
  refine pm_istore_n (i := 3) (L2 := [(0, _), (1, _), (2, _), (3, _)]) d146_3 rfl (by decide) rfl ?_
  have := lp 0 (Nat.zero_le _)
  rw [mlt_0] at this
  exact this
theorem sp_139 {s : Stt} {A : Mem} {Q : Int32 → Mem → Prop} {a : Nat} (hI : MI s A) (ha : a < nh (sF s)) (h : Q (b2i (bh s a)) A) : pm_P 139 0 [(0, .ref 0), (1, .int (nI a))] [] A Q := by
  have hb := MI_bd hI
  unfold bh at h
  generalize hp : (fun j => !kh s (lh (sF s) (a * 6 + j))) = p at h
  have hp : ∀ j, p j = !kh s (lh (sF s) (a * 6 + j)) := fun j => by rw [← hp]
  rw [← mlt_n hI.1.1 hI.1.2.1 ha] at h
  have lp : ∀ n, n ≤ nh (sF s) → pm_P 139 4 [(0, .ref 0), (1, .int (nI a)), (2, .int (b2i (anyN p (mlt (sF s) a n)))), (3, .int (nI n))] [] A Q := by
    refine up_ind (fun n hn ih => ?_)
    by_cases hlt : n < nh (sF s)
    · have ih := ih hlt
      have e12 := MI_bt hI ha hlt
      rcases bd_ml hI.1.1 hI.1.2.1 ha hlt with ⟨st, g1, g2, g3, g4, g5⟩ | ⟨g1, g5⟩
      · have hst := btw_lt hI.1.1 hI.1.2.1 ha g1
        have hpm := hp (mlt (sF s) a n)
        rw [g3] at hpm
        rw [g1] at e12
        rw [g5] at ih
        rw [show anyN p (mlt (sF s) a n + 1) = (anyN p (mlt (sF s) a n) || p (mlt (sF s) a n)) from rfl, hpm] at ih
        refine pm_iload_n (i := 3) d139_4 rfl rfl ?_
        refine pm_aload_n (i := 0) d139_5 rfl rfl ?_
        refine pm_getE d139_6 lf_11_76 rfl rfl (MI_nh hI) ?_
        first | refine pm_icmp_geN (tgt := 51) d139_9 rfl (by omega) (by omega) (fun c_9 => ?_) (fun c_9 => ?_) | refine pm_icmp_ge (tgt := 51) d139_9 rfl (fun c_9 => ?_) (fun c_9 => ?_)
        · omega
        · refine pm_iload_n (i := 2) d139_12 rfl rfl ?_
          first | refine pm_if_neB (tgt := 39) d139_13 rfl (fun c_13 => ?_) (fun c_13 => ?_) | refine pm_if_neN (tgt := 39) d139_13 rfl (by omega) (fun c_13 => ?_) (fun c_13 => ?_) | refine pm_if_ne (tgt := 39) d139_13 rfl (fun c_13 => ?_) (fun c_13 => ?_)
          · refine pm_iconst (v := nI 1) d139_39 (by decide) ?_
            refine pm_goto (tgt := 44) d139_40 rfl ?_
            refine pm_istore_n (i := 2) (L2 := [(0, _), (1, _), (2, _), (3, _)]) d139_44 rfl (by decide) rfl ?_
            first | refine pm_iincN 1 (L2 := [(0, _), (1, _), (2, _), (3, _)]) d139_45 rfl (by decide) rfl ?_ | refine pm_iinc (L2 := [(0, _), (1, _), (2, _), (3, _)]) d139_45 rfl rfl (by decide) rfl ?_
            refine pm_goto (tgt := 4) d139_48 rfl ?_
            rw [c_13, Bool.true_or] at ih
            exact ih
          · refine pm_aload_n (i := 0) d139_16 rfl rfl ?_
            refine pm_getR d139_17 lf_11_44 rfl rfl ?_
            refine pm_sipush (v := nI 146) d139_20 (by decide) ?_
            refine pm_iload_n (i := 1) d139_23 rfl rfl ?_
            first | refine pm_imulN d139_24 ?_ | refine pm_imul d139_24 ?_
            refine pm_iload_n (i := 3) d139_25 rfl rfl ?_
            first | refine pm_iaddN d139_26 ?_ | refine pm_iadd d139_26 ?_
            refine pm_ialdN d139_27 rfl (by decide) (by omega) ?_
            rw [e12, show opI (-1) (some st) = nI st from rfl]
            refine pm_if_lt (tgt := 43) d139_28 rfl (fun c_28 => ?_) (fun c_28 => ?_)
            · exact absurd c_28 (nI_pos (by omega))
            · refine pm_aload_n (i := 0) d139_31 rfl rfl ?_
              refine pm_iload_n (i := 3) d139_32 rfl rfl ?_
              refine pm_callV (k2 := 130) (As := [_]) d139_33 lk_11_140 ok_130 rfl rfl rfl (Nat.le_of_ble_eq_true rfl) rfl rfl rfl rfl rfl ⟨Nat.le_of_ble_eq_true rfl, Nat.le_of_ble_eq_true rfl⟩ (Nat.le_of_ble_eq_true rfl) ?_
              refine sp_130 hI hlt ?_
              first | refine pm_if_neB (tgt := 43) d139_36 rfl (fun c_36 => ?_) (fun c_36 => ?_) | refine pm_if_neN (tgt := 43) d139_36 rfl (by omega) (fun c_36 => ?_) (fun c_36 => ?_) | refine pm_if_ne (tgt := 43) d139_36 rfl (fun c_36 => ?_) (fun c_36 => ?_)
              · refine pm_iconst (v := nI 0) d139_43 (by decide) ?_
                refine pm_istore_n (i := 2) (L2 := [(0, _), (1, _), (2, _), (3, _)]) d139_44 rfl (by decide) rfl ?_
                first | refine pm_iincN 1 (L2 := [(0, _), (1, _), (2, _), (3, _)]) d139_45 rfl (by decide) rfl ?_ | refine pm_iinc (L2 := [(0, _), (1, _), (2, _), (3, _)]) d139_45 rfl rfl (by decide) rfl ?_
                refine pm_goto (tgt := 4) d139_48 rfl ?_
                rw [c_13, c_36] at ih
                exact ih
              · refine pm_iconst (v := nI 1) d139_39 (by decide) ?_
                refine pm_goto (tgt := 44) d139_40 rfl ?_
                refine pm_istore_n (i := 2) (L2 := [(0, _), (1, _), (2, _), (3, _)]) d139_44 rfl (by decide) rfl ?_
                first | refine pm_iincN 1 (L2 := [(0, _), (1, _), (2, _), (3, _)]) d139_45 rfl (by decide) rfl ?_ | refine pm_iinc (L2 := [(0, _), (1, _), (2, _), (3, _)]) d139_45 rfl rfl (by decide) rfl ?_
                refine pm_goto (tgt := 4) d139_48 rfl ?_
                rw [c_13, c_36] at ih
                exact ih
      · rw [g1] at e12
        rw [g5] at ih
        refine pm_iload_n (i := 3) d139_4 rfl rfl ?_
        refine pm_aload_n (i := 0) d139_5 rfl rfl ?_
        refine pm_getE d139_6 lf_11_76 rfl rfl (MI_nh hI) ?_
        first | refine pm_icmp_geN (tgt := 51) d139_9 rfl (by omega) (by omega) (fun c_9 => ?_) (fun c_9 => ?_) | refine pm_icmp_ge (tgt := 51) d139_9 rfl (fun c_9 => ?_) (fun c_9 => ?_)
        · omega
        · refine pm_iload_n (i := 2) d139_12 rfl rfl ?_
          first | refine pm_if_neB (tgt := 39) d139_13 rfl (fun c_13 => ?_) (fun c_13 => ?_) | refine pm_if_neN (tgt := 39) d139_13 rfl (by omega) (fun c_13 => ?_) (fun c_13 => ?_) | refine pm_if_ne (tgt := 39) d139_13 rfl (fun c_13 => ?_) (fun c_13 => ?_)
          · refine pm_iconst (v := nI 1) d139_39 (by decide) ?_
            refine pm_goto (tgt := 44) d139_40 rfl ?_
            refine pm_istore_n (i := 2) (L2 := [(0, _), (1, _), (2, _), (3, _)]) d139_44 rfl (by decide) rfl ?_
            first | refine pm_iincN 1 (L2 := [(0, _), (1, _), (2, _), (3, _)]) d139_45 rfl (by decide) rfl ?_ | refine pm_iinc (L2 := [(0, _), (1, _), (2, _), (3, _)]) d139_45 rfl rfl (by decide) rfl ?_
            refine pm_goto (tgt := 4) d139_48 rfl ?_
            rw [c_13] at ih
            exact ih
          · refine pm_aload_n (i := 0) d139_16 rfl rfl ?_
            refine pm_getR d139_17 lf_11_44 rfl rfl ?_
            refine pm_sipush (v := nI 146) d139_20 (by decide) ?_
            refine pm_iload_n (i := 1) d139_23 rfl rfl ?_
            first | refine pm_imulN d139_24 ?_ | refine pm_imul d139_24 ?_
            refine pm_iload_n (i := 3) d139_25 rfl rfl ?_
            first | refine pm_iaddN d139_26 ?_ | refine pm_iadd d139_26 ?_
            refine pm_ialdN d139_27 rfl (by decide) (by omega) ?_
            rw [e12, show opI (-1) none = -1 from rfl]
            refine pm_if_lt (tgt := 43) d139_28 rfl (fun c_28 => ?_) (fun c_28 => ?_)
            · refine pm_iconst (v := nI 0) d139_43 (by decide) ?_
              refine pm_istore_n (i := 2) (L2 := [(0, _), (1, _), (2, _), (3, _)]) d139_44 rfl (by decide) rfl ?_
              first | refine pm_iincN 1 (L2 := [(0, _), (1, _), (2, _), (3, _)]) d139_45 rfl (by decide) rfl ?_ | refine pm_iinc (L2 := [(0, _), (1, _), (2, _), (3, _)]) d139_45 rfl rfl (by decide) rfl ?_
              refine pm_goto (tgt := 4) d139_48 rfl ?_
              rw [c_13] at ih
              exact ih
            · exact absurd (by decide) c_28
    · skip
      refine pm_iload_n (i := 3) d139_4 rfl rfl ?_
      refine pm_aload_n (i := 0) d139_5 rfl rfl ?_
      refine pm_getE d139_6 lf_11_76 rfl rfl (MI_nh hI) ?_
      first | refine pm_icmp_geN (tgt := 51) d139_9 rfl (by omega) (by omega) (fun c_9 => ?_) (fun c_9 => ?_) | refine pm_icmp_ge (tgt := 51) d139_9 rfl (fun c_9 => ?_) (fun c_9 => ?_)
      · rw [show n = nh (sF s) by omega] 
        refine pm_iload_n (i := 2) d139_51 rfl rfl ?_
        first | refine pm_if_eqB (tgt := 67) d139_52 rfl (fun c_52 => ?_) (fun c_52 => ?_) | refine pm_if_eqN (tgt := 67) d139_52 rfl (by omega) (fun c_52 => ?_) (fun c_52 => ?_) | refine pm_if_eq (tgt := 67) d139_52 rfl (fun c_52 => ?_) (fun c_52 => ?_)
        · refine pm_iconst (v := nI 0) d139_67 (by decide) ?_
          refine pm_iret d139_68 rfl (by first | rfl | exact nar_b _) ?_
          rw [c_52, Bool.and_false] at h
          exact h
        · refine pm_aload_n (i := 0) d139_55 rfl rfl ?_
          refine pm_iload_n (i := 1) d139_56 rfl rfl ?_
          refine pm_callV (k2 := 130) (As := [_]) d139_57 lk_11_140 ok_130 rfl rfl rfl (Nat.le_of_ble_eq_true rfl) rfl rfl rfl rfl rfl ⟨Nat.le_of_ble_eq_true rfl, Nat.le_of_ble_eq_true rfl⟩ (Nat.le_of_ble_eq_true rfl) ?_
          refine sp_130 hI ha ?_
          first | refine pm_if_eqB (tgt := 67) d139_60 rfl (fun c_60 => ?_) (fun c_60 => ?_) | refine pm_if_eqN (tgt := 67) d139_60 rfl (by omega) (fun c_60 => ?_) (fun c_60 => ?_) | refine pm_if_eq (tgt := 67) d139_60 rfl (fun c_60 => ?_) (fun c_60 => ?_)
          · refine pm_iconst (v := nI 0) d139_67 (by decide) ?_
            refine pm_iret d139_68 rfl (by first | rfl | exact nar_b _) ?_
            rw [c_60, Bool.false_and] at h
            exact h
          · refine pm_iconst (v := nI 1) d139_63 (by decide) ?_
            refine pm_goto (tgt := 68) d139_64 rfl ?_
            refine pm_iret d139_68 rfl (by first | rfl | exact nar_b _) ?_
            rw [c_52, c_60] at h
            exact h
      · omega
  refine pm_iconst (v := nI 0) d139_0 (by decide) ?_
  refine pm_istore_n (i := 2) (L2 := [(0, _), (1, _), (2, _)]) d139_1 rfl (by decide) rfl ?_
  refine pm_iconst (v := nI 0) d139_2 (by decide) ?_
  refine pm_istore_n (i := 3) (L2 := [(0, _), (1, _), (2, _), (3, _)]) d139_3 rfl (by decide) rfl ?_
  have := lp 0 (Nat.zero_le _)
  rw [mlt_0] at this
  exact this
theorem sp_142 {s : Stt} {A : Mem} {Q : Int32 → Mem → Prop} (hI : MI s A) (h : Q (nI (cnt (bh s) (nh (sF s)))) A) : pm_P 142 0 [(0, .ref 0)] [] A Q := by
  have hb := MI_bd hI
  have lp : ∀ i, i ≤ nh (sF s) → pm_P 142 4 [(0, .ref 0), (1, .int (nI (cnt (bh s) i))), (2, .int (nI i))] [] A Q := by
    refine up_ind (fun i hi9 ih => ?_)
    refine pm_iload_n (i := 2) d142_4 rfl rfl ?_
    refine pm_aload_n (i := 0) d142_5 rfl rfl ?_
    refine pm_getE d142_6 lf_11_76 rfl rfl (MI_nh hI) ?_
    first | refine pm_icmp_geN (tgt := 34) d142_9 rfl (by omega) (by omega) (fun c_9 => ?_) (fun c_9 => ?_) | refine pm_icmp_ge (tgt := 34) d142_9 rfl (fun c_9 => ?_) (fun c_9 => ?_)
    · refine pm_iload_n (i := 1) d142_34 rfl rfl ?_
      refine pm_iret d142_35 rfl (by first | rfl | exact nar_b _) ?_
      rw [show i = nh (sF s) by omega]
      exact h
    · refine pm_iload_n (i := 1) d142_12 rfl rfl ?_
      refine pm_aload_n (i := 0) d142_13 rfl rfl ?_
      refine pm_iload_n (i := 2) d142_14 rfl rfl ?_
      refine pm_callV (k2 := 139) (As := [_]) d142_15 lk_11_172 ok_139 rfl rfl rfl (Nat.le_of_ble_eq_true rfl) rfl rfl rfl rfl rfl ⟨Nat.le_of_ble_eq_true rfl, Nat.le_of_ble_eq_true rfl⟩ (Nat.le_of_ble_eq_true rfl) ?_
      refine sp_139 hI c_9 ?_
      first | refine pm_if_eqB (tgt := 25) d142_18 rfl (fun c_18 => ?_) (fun c_18 => ?_) | refine pm_if_eqN (tgt := 25) d142_18 rfl (by omega) (fun c_18 => ?_) (fun c_18 => ?_) | refine pm_if_eq (tgt := 25) d142_18 rfl (fun c_18 => ?_) (fun c_18 => ?_)
      · refine pm_iconst (v := nI 0) d142_25 (by decide) ?_
        first | refine pm_iaddN d142_26 ?_ | refine pm_iadd d142_26 ?_
        refine pm_istore_n (i := 1) (L2 := [(0, _), (1, _), (2, _)]) d142_27 rfl (by decide) rfl ?_
        first | refine pm_iincN 1 (L2 := [(0, _), (1, _), (2, _)]) d142_28 rfl (by decide) rfl ?_ | refine pm_iinc (L2 := [(0, _), (1, _), (2, _)]) d142_28 rfl rfl (by decide) rfl ?_
        refine pm_goto (tgt := 4) d142_31 rfl ?_
        have := ih c_9
        rw [cnt_f c_18] at this
        exact this
      · refine pm_iconst (v := nI 1) d142_21 (by decide) ?_
        refine pm_goto (tgt := 26) d142_22 rfl ?_
        first | refine pm_iaddN d142_26 ?_ | refine pm_iadd d142_26 ?_
        refine pm_istore_n (i := 1) (L2 := [(0, _), (1, _), (2, _)]) d142_27 rfl (by decide) rfl ?_
        first | refine pm_iincN 1 (L2 := [(0, _), (1, _), (2, _)]) d142_28 rfl (by decide) rfl ?_ | refine pm_iinc (L2 := [(0, _), (1, _), (2, _)]) d142_28 rfl rfl (by decide) rfl ?_
        refine pm_goto (tgt := 4) d142_31 rfl ?_
        have := ih c_9
        rw [cnt_t c_18] at this
        exact this
  refine pm_iconst (v := nI 0) d142_0 (by decide) ?_
  refine pm_istore_n (i := 1) (L2 := [(0, _), (1, _)]) d142_1 rfl (by decide) rfl ?_
  refine pm_iconst (v := nI 0) d142_2 (by decide) ?_
  refine pm_istore_n (i := 2) (L2 := [(0, _), (1, _), (2, _)]) d142_3 rfl (by decide) rfl ?_
  exact lp 0 (Nat.zero_le _)
-- how many are alike
def alP (o a b c : Nat) : Nat := o * (if 0 < a then 2 else 1) * (if 0 < b then 2 else 1) * (if 0 < c then 2 else 1)
def alO (a b c : Nat) : Nat := if a = b ∧ b = c then 1 else if a = b ∨ b = c ∨ a = c then 3 else 6
theorem tk_al2 : allF (fun f => allN (nh f) (fun a => Nat.beq (al f a) (alP (alO (abN (tn (tb_hx f) a)) (abN (tn (tb_hy f) a)) (abN (tn (tb_hz f) a))) (abN (tn (tb_hx f) a)) (abN (tn (tb_hy f) a)) (abN (tn (tb_hz f) a))))) = true := by decide +kernel
theorem tk_sz : ∀ m : Nat, m < 13 → isz (Int32.ofInt ((m : Int) - 6)) = nI (abN m) ∧ abN m ≤ 6 := by decide +kernel
theorem sp_147 {s : Stt} {A : Mem} {Q : Int32 → Mem → Prop} {a : Nat} (hI : MI s A) (ha : a < nh (sF s)) (h : Q (nI (al (sF s) a)) A) : pm_P 147 0 [(0, .ref 0), (1, .int (nI a))] [] A Q := by
  have hb := MI_bd hI
  obtain ⟨x1, x2, x3⟩ := MI_xyz hI ha
  obtain ⟨t1, t2, t3⟩ := bd_13 hI.1.1 hI.1.2.1 ha
  have h2 := allN_of (allF_of tk_al2 hI.1.1 hI.1.2.1) ha
  rw [Nat.beq_eq] at h2
  rw [h2] at h
  obtain ⟨z1, y1⟩ := tk_sz _ t1
  obtain ⟨z2, y2⟩ := tk_sz _ t2
  obtain ⟨z3, y3⟩ := tk_sz _ t3
  have z1 : isz (hx (sF s) a) = nI (abN (tn (tb_hx (sF s)) a)) := z1
  have z2 : isz (hy (sF s) a) = nI (abN (tn (tb_hy (sF s)) a)) := z2
  have z3 : isz (hz (sF s) a) = nI (abN (tn (tb_hz (sF s)) a)) := z3
  generalize abN (tn (tb_hx (sF s)) a) = p at *
  generalize abN (tn (tb_hy (sF s)) a) = q at *
  generalize abN (tn (tb_hz (sF s)) a) = r at *
  have k71 : ∀ o, o = alO p q r → pm_P 147 71 [(0, .ref 0), (1, .int (nI a)), (2, .int (nI p)), (3, .int (nI q)), (4, .int (nI r)), (5, .int (nI o))] [] A Q := by
    intro o ho
    rw [← ho] at h
    unfold alP at h
    refine pm_iload d147_71 rfl ?_
    refine pm_iload_n (i := 2) d147_73 rfl rfl ?_
    first | refine pm_if_leN (tgt := 81) d147_74 rfl (by omega) (fun c_74 => ?_) (fun c_74 => ?_) | refine pm_if_le (tgt := 81) d147_74 rfl (fun c_74 => ?_) (fun c_74 => ?_)
    · refine pm_iconst (v := nI 1) d147_81 (by decide) ?_
      first | refine pm_imulN d147_82 ?_ | refine pm_imul d147_82 ?_
      refine pm_iload_n (i := 3) d147_83 rfl rfl ?_
      first | refine pm_if_leN (tgt := 91) d147_84 rfl (by omega) (fun c_84 => ?_) (fun c_84 => ?_) | refine pm_if_le (tgt := 91) d147_84 rfl (fun c_84 => ?_) (fun c_84 => ?_)
      · refine pm_iconst (v := nI 1) d147_91 (by decide) ?_
        first | refine pm_imulN d147_92 ?_ | refine pm_imul d147_92 ?_
        refine pm_iload d147_93 rfl ?_
        first | refine pm_if_leN (tgt := 102) d147_95 rfl (by omega) (fun c_95 => ?_) (fun c_95 => ?_) | refine pm_if_le (tgt := 102) d147_95 rfl (fun c_95 => ?_) (fun c_95 => ?_)
        · refine pm_iconst (v := nI 1) d147_102 (by decide) ?_
          first | refine pm_imulN d147_103 ?_ | refine pm_imul d147_103 ?_
          refine pm_iret d147_104 rfl (by first | rfl | exact nar_b _) ?_
          (first | rw [if_pos c_74] at h | rw [if_neg (show ¬ 0 < p by omega)] at h)
          (first | rw [if_pos c_84] at h | rw [if_neg (show ¬ 0 < q by omega)] at h)
          (first | rw [if_pos c_95] at h | rw [if_neg (show ¬ 0 < r by omega)] at h)
          exact h
        · refine pm_iconst (v := nI 2) d147_98 (by decide) ?_
          refine pm_goto (tgt := 103) d147_99 rfl ?_
          first | refine pm_imulN d147_103 ?_ | refine pm_imul d147_103 ?_
          refine pm_iret d147_104 rfl (by first | rfl | exact nar_b _) ?_
          (first | rw [if_pos c_74] at h | rw [if_neg (show ¬ 0 < p by omega)] at h)
          (first | rw [if_pos c_84] at h | rw [if_neg (show ¬ 0 < q by omega)] at h)
          (first | rw [if_pos c_95] at h | rw [if_neg (show ¬ 0 < r by omega)] at h)
          exact h
      · refine pm_iconst (v := nI 2) d147_87 (by decide) ?_
        refine pm_goto (tgt := 92) d147_88 rfl ?_
        first | refine pm_imulN d147_92 ?_ | refine pm_imul d147_92 ?_
        refine pm_iload d147_93 rfl ?_
        first | refine pm_if_leN (tgt := 102) d147_95 rfl (by omega) (fun c_95 => ?_) (fun c_95 => ?_) | refine pm_if_le (tgt := 102) d147_95 rfl (fun c_95 => ?_) (fun c_95 => ?_)
        · refine pm_iconst (v := nI 1) d147_102 (by decide) ?_
          first | refine pm_imulN d147_103 ?_ | refine pm_imul d147_103 ?_
          refine pm_iret d147_104 rfl (by first | rfl | exact nar_b _) ?_
          (first | rw [if_pos c_74] at h | rw [if_neg (show ¬ 0 < p by omega)] at h)
          (first | rw [if_pos c_84] at h | rw [if_neg (show ¬ 0 < q by omega)] at h)
          (first | rw [if_pos c_95] at h | rw [if_neg (show ¬ 0 < r by omega)] at h)
          exact h
        · refine pm_iconst (v := nI 2) d147_98 (by decide) ?_
          refine pm_goto (tgt := 103) d147_99 rfl ?_
          first | refine pm_imulN d147_103 ?_ | refine pm_imul d147_103 ?_
          refine pm_iret d147_104 rfl (by first | rfl | exact nar_b _) ?_
          (first | rw [if_pos c_74] at h | rw [if_neg (show ¬ 0 < p by omega)] at h)
          (first | rw [if_pos c_84] at h | rw [if_neg (show ¬ 0 < q by omega)] at h)
          (first | rw [if_pos c_95] at h | rw [if_neg (show ¬ 0 < r by omega)] at h)
          exact h
    · refine pm_iconst (v := nI 2) d147_77 (by decide) ?_
      refine pm_goto (tgt := 82) d147_78 rfl ?_
      first | refine pm_imulN d147_82 ?_ | refine pm_imul d147_82 ?_
      refine pm_iload_n (i := 3) d147_83 rfl rfl ?_
      first | refine pm_if_leN (tgt := 91) d147_84 rfl (by omega) (fun c_84 => ?_) (fun c_84 => ?_) | refine pm_if_le (tgt := 91) d147_84 rfl (fun c_84 => ?_) (fun c_84 => ?_)
      · refine pm_iconst (v := nI 1) d147_91 (by decide) ?_
        first | refine pm_imulN d147_92 ?_ | refine pm_imul d147_92 ?_
        refine pm_iload d147_93 rfl ?_
        first | refine pm_if_leN (tgt := 102) d147_95 rfl (by omega) (fun c_95 => ?_) (fun c_95 => ?_) | refine pm_if_le (tgt := 102) d147_95 rfl (fun c_95 => ?_) (fun c_95 => ?_)
        · refine pm_iconst (v := nI 1) d147_102 (by decide) ?_
          first | refine pm_imulN d147_103 ?_ | refine pm_imul d147_103 ?_
          refine pm_iret d147_104 rfl (by first | rfl | exact nar_b _) ?_
          (first | rw [if_pos c_74] at h | rw [if_neg (show ¬ 0 < p by omega)] at h)
          (first | rw [if_pos c_84] at h | rw [if_neg (show ¬ 0 < q by omega)] at h)
          (first | rw [if_pos c_95] at h | rw [if_neg (show ¬ 0 < r by omega)] at h)
          exact h
        · refine pm_iconst (v := nI 2) d147_98 (by decide) ?_
          refine pm_goto (tgt := 103) d147_99 rfl ?_
          first | refine pm_imulN d147_103 ?_ | refine pm_imul d147_103 ?_
          refine pm_iret d147_104 rfl (by first | rfl | exact nar_b _) ?_
          (first | rw [if_pos c_74] at h | rw [if_neg (show ¬ 0 < p by omega)] at h)
          (first | rw [if_pos c_84] at h | rw [if_neg (show ¬ 0 < q by omega)] at h)
          (first | rw [if_pos c_95] at h | rw [if_neg (show ¬ 0 < r by omega)] at h)
          exact h
      · refine pm_iconst (v := nI 2) d147_87 (by decide) ?_
        refine pm_goto (tgt := 92) d147_88 rfl ?_
        first | refine pm_imulN d147_92 ?_ | refine pm_imul d147_92 ?_
        refine pm_iload d147_93 rfl ?_
        first | refine pm_if_leN (tgt := 102) d147_95 rfl (by omega) (fun c_95 => ?_) (fun c_95 => ?_) | refine pm_if_le (tgt := 102) d147_95 rfl (fun c_95 => ?_) (fun c_95 => ?_)
        · refine pm_iconst (v := nI 1) d147_102 (by decide) ?_
          first | refine pm_imulN d147_103 ?_ | refine pm_imul d147_103 ?_
          refine pm_iret d147_104 rfl (by first | rfl | exact nar_b _) ?_
          (first | rw [if_pos c_74] at h | rw [if_neg (show ¬ 0 < p by omega)] at h)
          (first | rw [if_pos c_84] at h | rw [if_neg (show ¬ 0 < q by omega)] at h)
          (first | rw [if_pos c_95] at h | rw [if_neg (show ¬ 0 < r by omega)] at h)
          exact h
        · refine pm_iconst (v := nI 2) d147_98 (by decide) ?_
          refine pm_goto (tgt := 103) d147_99 rfl ?_
          first | refine pm_imulN d147_103 ?_ | refine pm_imul d147_103 ?_
          refine pm_iret d147_104 rfl (by first | rfl | exact nar_b _) ?_
          (first | rw [if_pos c_74] at h | rw [if_neg (show ¬ 0 < p by omega)] at h)
          (first | rw [if_pos c_84] at h | rw [if_neg (show ¬ 0 < q by omega)] at h)
          (first | rw [if_pos c_95] at h | rw [if_neg (show ¬ 0 < r by omega)] at h)
          exact h
  refine pm_aload_n (i := 0) d147_0 rfl rfl ?_
  refine pm_getR d147_1 lf_11_20 rfl rfl ?_
  refine pm_iload_n (i := 1) d147_4 rfl rfl ?_
  refine pm_ialdN d147_5 rfl (by decide) (by omega) ?_
  rw [x1]
  refine pm_callS (k2 := 114) (As := [_]) d147_6 lk_11_79 ok_114 rfl rfl rfl (Nat.le_of_ble_eq_true rfl) rfl rfl ⟨Nat.le_of_ble_eq_true rfl, Nat.le_of_ble_eq_true rfl⟩ (Nat.le_of_ble_eq_true rfl) ?_
  refine sp_114 ?_
  rw [z1]
  refine pm_istore_n (i := 2) (L2 := [(0, _), (1, _), (2, _)]) d147_9 rfl (by decide) rfl ?_
  refine pm_aload_n (i := 0) d147_10 rfl rfl ?_
  refine pm_getR d147_11 lf_11_23 rfl rfl ?_
  refine pm_iload_n (i := 1) d147_14 rfl rfl ?_
  refine pm_ialdN d147_15 rfl (by decide) (by omega) ?_
  rw [x2]
  refine pm_callS (k2 := 114) (As := [_]) d147_16 lk_11_79 ok_114 rfl rfl rfl (Nat.le_of_ble_eq_true rfl) rfl rfl ⟨Nat.le_of_ble_eq_true rfl, Nat.le_of_ble_eq_true rfl⟩ (Nat.le_of_ble_eq_true rfl) ?_
  refine sp_114 ?_
  rw [z2]
  refine pm_istore_n (i := 3) (L2 := [(0, _), (1, _), (2, _), (3, _)]) d147_19 rfl (by decide) rfl ?_
  refine pm_aload_n (i := 0) d147_20 rfl rfl ?_
  refine pm_getR d147_21 lf_11_26 rfl rfl ?_
  refine pm_iload_n (i := 1) d147_24 rfl rfl ?_
  refine pm_ialdN d147_25 rfl (by decide) (by omega) ?_
  rw [x3]
  refine pm_callS (k2 := 114) (As := [_]) d147_26 lk_11_79 ok_114 rfl rfl rfl (Nat.le_of_ble_eq_true rfl) rfl rfl ⟨Nat.le_of_ble_eq_true rfl, Nat.le_of_ble_eq_true rfl⟩ (Nat.le_of_ble_eq_true rfl) ?_
  refine sp_114 ?_
  rw [z3]
  refine pm_istore (L2 := [(0, _), (1, _), (2, _), (3, _), (4, _)]) d147_29 (by decide) rfl ?_
  refine pm_iload_n (i := 2) d147_31 rfl rfl ?_
  refine pm_iload_n (i := 3) d147_32 rfl rfl ?_
  first | refine pm_icmp_neN (tgt := 46) d147_33 rfl (by omega) (by omega) (fun c_33 => ?_) (fun c_33 => ?_) | refine pm_icmp_ne (tgt := 46) d147_33 rfl (fun c_33 => ?_) (fun c_33 => ?_)
  · refine pm_iload_n (i := 2) d147_46 rfl rfl ?_
    refine pm_iload_n (i := 3) d147_47 rfl rfl ?_
    first | refine pm_icmp_eqN (tgt := 63) d147_48 rfl (by omega) (by omega) (fun c_48 => ?_) (fun c_48 => ?_) | refine pm_icmp_eq (tgt := 63) d147_48 rfl (fun c_48 => ?_) (fun c_48 => ?_)
    · refine pm_iconst (v := nI 3) d147_63 (by decide) ?_
      refine pm_goto (tgt := 69) d147_64 rfl ?_
      refine pm_istore (L2 := [(0, _), (1, _), (2, _), (3, _), (4, _), (5, _)]) d147_69 (by decide) rfl ?_
      exact k71 _ (by unfold alO; split; omega; split; omega; omega)
    · refine pm_iload_n (i := 3) d147_51 rfl rfl ?_
      refine pm_iload d147_52 rfl ?_
      first | refine pm_icmp_eqN (tgt := 63) d147_54 rfl (by omega) (by omega) (fun c_54 => ?_) (fun c_54 => ?_) | refine pm_icmp_eq (tgt := 63) d147_54 rfl (fun c_54 => ?_) (fun c_54 => ?_)
      · refine pm_iconst (v := nI 3) d147_63 (by decide) ?_
        refine pm_goto (tgt := 69) d147_64 rfl ?_
        refine pm_istore (L2 := [(0, _), (1, _), (2, _), (3, _), (4, _), (5, _)]) d147_69 (by decide) rfl ?_
        exact k71 _ (by unfold alO; split; omega; split; omega; omega)
      · refine pm_iload_n (i := 2) d147_57 rfl rfl ?_
        refine pm_iload d147_58 rfl ?_
        first | refine pm_icmp_neN (tgt := 67) d147_60 rfl (by omega) (by omega) (fun c_60 => ?_) (fun c_60 => ?_) | refine pm_icmp_ne (tgt := 67) d147_60 rfl (fun c_60 => ?_) (fun c_60 => ?_)
        · refine pm_bipush (v := nI 6) d147_67 (by decide) ?_
          refine pm_istore (L2 := [(0, _), (1, _), (2, _), (3, _), (4, _), (5, _)]) d147_69 (by decide) rfl ?_
          exact k71 _ (by unfold alO; split; omega; split; omega; omega)
        · refine pm_iconst (v := nI 3) d147_63 (by decide) ?_
          refine pm_goto (tgt := 69) d147_64 rfl ?_
          refine pm_istore (L2 := [(0, _), (1, _), (2, _), (3, _), (4, _), (5, _)]) d147_69 (by decide) rfl ?_
          exact k71 _ (by unfold alO; split; omega; split; omega; omega)
  · refine pm_iload_n (i := 3) d147_36 rfl rfl ?_
    refine pm_iload d147_37 rfl ?_
    first | refine pm_icmp_neN (tgt := 46) d147_39 rfl (by omega) (by omega) (fun c_39 => ?_) (fun c_39 => ?_) | refine pm_icmp_ne (tgt := 46) d147_39 rfl (fun c_39 => ?_) (fun c_39 => ?_)
    · refine pm_iload_n (i := 2) d147_46 rfl rfl ?_
      refine pm_iload_n (i := 3) d147_47 rfl rfl ?_
      first | refine pm_icmp_eqN (tgt := 63) d147_48 rfl (by omega) (by omega) (fun c_48 => ?_) (fun c_48 => ?_) | refine pm_icmp_eq (tgt := 63) d147_48 rfl (fun c_48 => ?_) (fun c_48 => ?_)
      · refine pm_iconst (v := nI 3) d147_63 (by decide) ?_
        refine pm_goto (tgt := 69) d147_64 rfl ?_
        refine pm_istore (L2 := [(0, _), (1, _), (2, _), (3, _), (4, _), (5, _)]) d147_69 (by decide) rfl ?_
        exact k71 _ (by unfold alO; split; omega; split; omega; omega)
      · refine pm_iload_n (i := 3) d147_51 rfl rfl ?_
        refine pm_iload d147_52 rfl ?_
        first | refine pm_icmp_eqN (tgt := 63) d147_54 rfl (by omega) (by omega) (fun c_54 => ?_) (fun c_54 => ?_) | refine pm_icmp_eq (tgt := 63) d147_54 rfl (fun c_54 => ?_) (fun c_54 => ?_)
        · refine pm_iconst (v := nI 3) d147_63 (by decide) ?_
          refine pm_goto (tgt := 69) d147_64 rfl ?_
          refine pm_istore (L2 := [(0, _), (1, _), (2, _), (3, _), (4, _), (5, _)]) d147_69 (by decide) rfl ?_
          exact k71 _ (by unfold alO; split; omega; split; omega; omega)
        · refine pm_iload_n (i := 2) d147_57 rfl rfl ?_
          refine pm_iload d147_58 rfl ?_
          first | refine pm_icmp_neN (tgt := 67) d147_60 rfl (by omega) (by omega) (fun c_60 => ?_) (fun c_60 => ?_) | refine pm_icmp_ne (tgt := 67) d147_60 rfl (fun c_60 => ?_) (fun c_60 => ?_)
          · refine pm_bipush (v := nI 6) d147_67 (by decide) ?_
            refine pm_istore (L2 := [(0, _), (1, _), (2, _), (3, _), (4, _), (5, _)]) d147_69 (by decide) rfl ?_
            exact k71 _ (by unfold alO; split; omega; split; omega; omega)
          · refine pm_iconst (v := nI 3) d147_63 (by decide) ?_
            refine pm_goto (tgt := 69) d147_64 rfl ?_
            refine pm_istore (L2 := [(0, _), (1, _), (2, _), (3, _), (4, _), (5, _)]) d147_69 (by decide) rfl ?_
            exact k71 _ (by unfold alO; split; omega; split; omega; omega)
    · refine pm_iconst (v := nI 1) d147_42 (by decide) ?_
      refine pm_goto (tgt := 69) d147_43 rfl ?_
      refine pm_istore (L2 := [(0, _), (1, _), (2, _), (3, _), (4, _), (5, _)]) d147_69 (by decide) rfl ?_
      exact k71 _ (by unfold alO; split; omega; split; omega; omega)
