/-! the class's answers out of the tables: find, product, between, greatest .. -/
def fdp (f : Nat) (x y z : Int32) (i : Nat) : Bool := decide (hx f i = x) && (decide (hy f i = y) && decide (hz f i = z))
theorem sp_10 {f : Nat} {A : Mem} {Q : Int32 → Mem → Prop} {x y z : Int32} (h1 : 1 ≤ f) (h6 : f ≤ 6) (hB : BH f A) (h : Q (opI (-1) (fst (fdp f x y z) (nh f))) A) : pm_P 10 0 [(0, .ref 1), (1, .int x), (2, .int y), (3, .int z)] [] A Q := by
  have hb := bd_n h1 h6
  generalize hp : fdp f x y z = p at h
  have hp : ∀ j, p j = fdp f x y z j := fun j => by rw [← hp]
  unfold fdp at hp
  have lp : ∀ i, i ≤ nh f → fst p i = none → pm_P 10 3 [(0, .ref 1), (1, .int x), (2, .int y), (3, .int z), (4, .int (nI i))] [] A Q := by
    refine up_ind (fun i hi9 ih hz9 => ?_)
    refine pm_iload d10_3 rfl ?_
    refine pm_aload_n (i := 0) d10_5 rfl rfl ?_
    refine pm_getE d10_6 lf_2_25 rfl rfl (hB.2.1) ?_
    first | refine pm_icmp_geN (tgt := 54) d10_9 rfl (by omega) (by omega) (fun c_9 => ?_) (fun c_9 => ?_) | refine pm_icmp_ge (tgt := 54) d10_9 rfl (fun c_9 => ?_) (fun c_9 => ?_)
    · refine pm_iconst (v := -1) d10_54 (by decide) ?_
      refine pm_iret d10_55 rfl (by first | rfl | exact nar_b _) ?_
      rw [show i = nh f by omega] at hz9
      rw [hz9] at h
      exact h
    · refine pm_aload_n (i := 0) d10_12 rfl rfl ?_
      refine pm_getR d10_13 lf_2_9 rfl rfl ?_
      refine pm_iload d10_16 rfl ?_
      refine pm_ialdN d10_18 rfl (by decide) (by omega) ?_
      rw [(hB.2.2 i c_9).1]
      refine pm_iload_n (i := 1) d10_19 rfl rfl ?_
      first | refine pm_icmp_neN (tgt := 48) d10_20 rfl (by omega) (by omega) (fun c_20 => ?_) (fun c_20 => ?_) | refine pm_icmp_ne (tgt := 48) d10_20 rfl (fun c_20 => ?_) (fun c_20 => ?_)
      · first | refine pm_iincN 1 (L2 := [(0, _), (1, _), (2, _), (3, _), (4, _)]) d10_48 rfl (by decide) rfl ?_ | refine pm_iinc (L2 := [(0, _), (1, _), (2, _), (3, _), (4, _)]) d10_48 rfl rfl (by decide) rfl ?_
        refine pm_goto (tgt := 3) d10_51 rfl ?_
        exact ih c_9 (fst_n hz9 (by simp_all))
      · refine pm_aload_n (i := 0) d10_23 rfl rfl ?_
        refine pm_getR d10_24 lf_2_15 rfl rfl ?_
        refine pm_iload d10_27 rfl ?_
        refine pm_ialdN d10_29 rfl (by decide) (by omega) ?_
        rw [(hB.2.2 i c_9).2.1]
        refine pm_iload_n (i := 2) d10_30 rfl rfl ?_
        first | refine pm_icmp_neN (tgt := 48) d10_31 rfl (by omega) (by omega) (fun c_31 => ?_) (fun c_31 => ?_) | refine pm_icmp_ne (tgt := 48) d10_31 rfl (fun c_31 => ?_) (fun c_31 => ?_)
        · first | refine pm_iincN 1 (L2 := [(0, _), (1, _), (2, _), (3, _), (4, _)]) d10_48 rfl (by decide) rfl ?_ | refine pm_iinc (L2 := [(0, _), (1, _), (2, _), (3, _), (4, _)]) d10_48 rfl rfl (by decide) rfl ?_
          refine pm_goto (tgt := 3) d10_51 rfl ?_
          exact ih c_9 (fst_n hz9 (by simp_all))
        · refine pm_aload_n (i := 0) d10_34 rfl rfl ?_
          refine pm_getR d10_35 lf_2_18 rfl rfl ?_
          refine pm_iload d10_38 rfl ?_
          refine pm_ialdN d10_40 rfl (by decide) (by omega) ?_
          rw [(hB.2.2 i c_9).2.2]
          refine pm_iload_n (i := 3) d10_41 rfl rfl ?_
          first | refine pm_icmp_neN (tgt := 48) d10_42 rfl (by omega) (by omega) (fun c_42 => ?_) (fun c_42 => ?_) | refine pm_icmp_ne (tgt := 48) d10_42 rfl (fun c_42 => ?_) (fun c_42 => ?_)
          · first | refine pm_iincN 1 (L2 := [(0, _), (1, _), (2, _), (3, _), (4, _)]) d10_48 rfl (by decide) rfl ?_ | refine pm_iinc (L2 := [(0, _), (1, _), (2, _), (3, _), (4, _)]) d10_48 rfl rfl (by decide) rfl ?_
            refine pm_goto (tgt := 3) d10_51 rfl ?_
            exact ih c_9 (fst_n hz9 (by simp_all))
          · refine pm_iload d10_45 rfl ?_
            refine pm_iret d10_47 rfl (by first | rfl | exact nar_b _) ?_
            rw [fst_s hz9 (by simp_all) c_9] at h
            exact h
  refine pm_iconst (v := nI 0) d10_0 (by decide) ?_
  refine pm_istore (L2 := [(0, _), (1, _), (2, _), (3, _), (4, _)]) d10_1 (by decide) rfl ?_
  exact lp 0 (Nat.zero_le _) rfl
def pr (f a b : Nat) : Int32 := hx f a * hx f b + hy f a * hy f b + hz f a * hz f b
theorem sp_11 {f : Nat} {A : Mem} {Q : Int32 → Mem → Prop} {a b : Nat} (h1 : 1 ≤ f) (h6 : f ≤ 6) (hB : BH f A) (ha : a < nh f) (hb : b < nh f) (h : Q (pr f a b) A) : pm_P 11 0 [(0, .ref 1), (1, .int (nI a)), (2, .int (nI b))] [] A Q := by
  have hbd := bd_n h1 h6
  obtain ⟨a1, a2, a3⟩ := hB.2.2 a ha
  obtain ⟨b1, b2, b3⟩ := hB.2.2 b hb
  refine pm_aload_n (i := 0) d11_0 rfl rfl ?_
  refine pm_getR d11_1 lf_2_9 rfl rfl ?_
  refine pm_iload_n (i := 1) d11_4 rfl rfl ?_
  refine pm_ialdN d11_5 rfl (by decide) (by omega) ?_
  refine pm_aload_n (i := 0) d11_6 rfl rfl ?_
  refine pm_getR d11_7 lf_2_9 rfl rfl ?_
  refine pm_iload_n (i := 2) d11_10 rfl rfl ?_
  refine pm_ialdN d11_11 rfl (by decide) (by omega) ?_
  refine pm_imul d11_12 ?_
  refine pm_aload_n (i := 0) d11_13 rfl rfl ?_
  refine pm_getR d11_14 lf_2_15 rfl rfl ?_
  refine pm_iload_n (i := 1) d11_17 rfl rfl ?_
  refine pm_ialdN d11_18 rfl (by decide) (by omega) ?_
  refine pm_aload_n (i := 0) d11_19 rfl rfl ?_
  refine pm_getR d11_20 lf_2_15 rfl rfl ?_
  refine pm_iload_n (i := 2) d11_23 rfl rfl ?_
  refine pm_ialdN d11_24 rfl (by decide) (by omega) ?_
  refine pm_imul d11_25 ?_
  refine pm_iadd d11_26 ?_
  refine pm_aload_n (i := 0) d11_27 rfl rfl ?_
  refine pm_getR d11_28 lf_2_18 rfl rfl ?_
  refine pm_iload_n (i := 1) d11_31 rfl rfl ?_
  refine pm_ialdN d11_32 rfl (by decide) (by omega) ?_
  refine pm_aload_n (i := 0) d11_33 rfl rfl ?_
  refine pm_getR d11_34 lf_2_18 rfl rfl ?_
  refine pm_iload_n (i := 2) d11_37 rfl rfl ?_
  refine pm_ialdN d11_38 rfl (by decide) (by omega) ?_
  refine pm_imul d11_39 ?_
  refine pm_iadd d11_40 ?_
  refine pm_iret d11_41 rfl (by first | rfl | exact nar_b _) ?_
  rw [a1, a2, a3, b1, b2, b3]
  exact h
theorem sp_48 {f : Nat} {A : Mem} {Q : Int32 → Mem → Prop} {a b : Nat} (h1 : 1 ≤ f) (h6 : f ≤ 6) (hB : BS f A) (ha : a < nh f) (hb : b < nh f) (h : Q (opI (-1) ((fst (fun j => decide (lh f (a * 6 + j) = b)) (dg f a)).map (fun j => lk f (a * 6 + j)))) A) : pm_P 48 0 [(0, .ref 5), (1, .int (nI a)), (2, .int (nI b))] [] A Q := by
  have hbd := bd_n h1 h6
  have hd := bd_a h1 h6 ha
  generalize hp : (fun j => decide (lh f (a * 6 + j) = b)) = p at h
  have hp : ∀ j, p j = decide (lh f (a * 6 + j) = b) := fun j => by rw [← hp]
  have lp : ∀ i, i ≤ dg f a → fst p i = none → pm_P 48 2 [(0, .ref 5), (1, .int (nI a)), (2, .int (nI b)), (3, .int (nI i))] [] A Q := by
    refine up_ind (fun i hi9 ih hz9 => ?_)
    refine pm_iload_n (i := 3) d48_2 rfl rfl ?_
    refine pm_aload_n (i := 0) d48_3 rfl rfl ?_
    refine pm_getR d48_4 lf_7_18 rfl rfl ?_
    refine pm_iload_n (i := 1) d48_7 rfl rfl ?_
    refine pm_ialdN d48_8 rfl (by decide) (by omega) ?_
    rw [hB.2.2.1 a ha]
    first | refine pm_icmp_geN (tgt := 45) d48_9 rfl (by omega) (by omega) (fun c_9 => ?_) (fun c_9 => ?_) | refine pm_icmp_ge (tgt := 45) d48_9 rfl (fun c_9 => ?_) (fun c_9 => ?_)
    · refine pm_iconst (v := -1) d48_45 (by decide) ?_
      refine pm_iret d48_46 rfl (by first | rfl | exact nar_b _) ?_
      rw [show i = dg f a by omega] at hz9
      rw [hz9] at h
      exact h
    · refine pm_aload_n (i := 0) d48_12 rfl rfl ?_
      refine pm_getR d48_13 lf_7_21 rfl rfl ?_
      refine pm_iload_n (i := 1) d48_16 rfl rfl ?_
      refine pm_bipush (v := nI 6) d48_17 (by decide) ?_
      first | refine pm_imulN d48_19 ?_ | refine pm_imul d48_19 ?_
      refine pm_iload_n (i := 3) d48_20 rfl rfl ?_
      first | refine pm_iaddN d48_21 ?_ | refine pm_iadd d48_21 ?_
      refine pm_ialdN d48_22 rfl (by decide) (by omega) ?_
      rw [(hB.2.2.2 a i ha c_9).1]
      have hl9 := (hd.2 i c_9).1
      refine pm_iload_n (i := 2) d48_23 rfl rfl ?_
      first | refine pm_icmp_neN (tgt := 39) d48_24 rfl (by omega) (by omega) (fun c_24 => ?_) (fun c_24 => ?_) | refine pm_icmp_ne (tgt := 39) d48_24 rfl (fun c_24 => ?_) (fun c_24 => ?_)
      · first | refine pm_iincN 1 (L2 := [(0, _), (1, _), (2, _), (3, _)]) d48_39 rfl (by decide) rfl ?_ | refine pm_iinc (L2 := [(0, _), (1, _), (2, _), (3, _)]) d48_39 rfl rfl (by decide) rfl ?_
        refine pm_goto (tgt := 2) d48_42 rfl ?_
        exact ih c_9 (fst_n hz9 (by simp_all))
      · refine pm_aload_n (i := 0) d48_27 rfl rfl ?_
        refine pm_getR d48_28 lf_7_24 rfl rfl ?_
        refine pm_iload_n (i := 1) d48_31 rfl rfl ?_
        refine pm_bipush (v := nI 6) d48_32 (by decide) ?_
        first | refine pm_imulN d48_34 ?_ | refine pm_imul d48_34 ?_
        refine pm_iload_n (i := 3) d48_35 rfl rfl ?_
        first | refine pm_iaddN d48_36 ?_ | refine pm_iadd d48_36 ?_
        refine pm_ialdN d48_37 rfl (by decide) (by omega) ?_
        rw [(hB.2.2.2 a i ha c_9).2]
        refine pm_iret d48_38 rfl (by first | rfl | exact nar_b _) ?_
        rw [fst_s hz9 (by simp_all) c_9] at h
        exact h
  refine pm_iconst (v := nI 0) d48_0 (by decide) ?_
  refine pm_istore_n (i := 3) (L2 := [(0, _), (1, _), (2, _), (3, _)]) d48_1 rfl (by decide) rfl ?_
  exact lp 0 (Nat.zero_le _) rfl
theorem sp_23 {s : Stt} {A : Mem} {Q : Int32 → Mem → Prop} {q : Nat} (hI : CI s A) (hq : q < nk (sF s)) (h : Q (opI (-1) (fst (fun i => decide (ko (sF s) i = q)) (ns (sF s)))) A) : pm_P 23 0 [(0, .ref 11), (1, .int (nI q))] [] A Q := by
  have hb := CI_bd hI
  generalize hp : (fun i => decide (ko (sF s) i = q)) = p at h
  have hp : ∀ j, p j = decide (ko (sF s) j = q) := fun j => by rw [← hp]
  have lp : ∀ i, i ≤ ns (sF s) → fst p i = none → pm_P 23 2 [(0, .ref 11), (1, .int (nI q)), (2, .int (nI i))] [] A Q := by
    refine up_ind (fun i hi9 ih hz9 => ?_)
    refine pm_iload_n (i := 2) d23_2 rfl rfl ?_
    refine pm_aload_n (i := 0) d23_3 rfl rfl ?_
    refine pm_getE d23_4 lf_3_37 rfl rfl (hI.2.1.2.2.1.1) ?_
    first | refine pm_icmp_geN (tgt := 28) d23_7 rfl (by omega) (by omega) (fun c_7 => ?_) (fun c_7 => ?_) | refine pm_icmp_ge (tgt := 28) d23_7 rfl (fun c_7 => ?_) (fun c_7 => ?_)
    · refine pm_iconst (v := -1) d23_28 (by decide) ?_
      refine pm_iret d23_29 rfl (by first | rfl | exact nar_b _) ?_
      rw [show i = ns (sF s) by omega] at hz9
      rw [hz9] at h
      exact h
    · refine pm_aload_n (i := 0) d23_10 rfl rfl ?_
      refine pm_getR d23_11 lf_3_18 rfl rfl ?_
      refine pm_iload_n (i := 2) d23_14 rfl rfl ?_
      refine pm_ialdN d23_15 rfl (by decide) (by omega) ?_
      rw [CI_ko hI c_7]
      have hko := (bd_s hI.1.1 hI.1.2.1 c_7).2.2.1
      refine pm_iload_n (i := 1) d23_16 rfl rfl ?_
      first | refine pm_icmp_neN (tgt := 22) d23_17 rfl (by omega) (by omega) (fun c_17 => ?_) (fun c_17 => ?_) | refine pm_icmp_ne (tgt := 22) d23_17 rfl (fun c_17 => ?_) (fun c_17 => ?_)
      · first | refine pm_iincN 1 (L2 := [(0, _), (1, _), (2, _)]) d23_22 rfl (by decide) rfl ?_ | refine pm_iinc (L2 := [(0, _), (1, _), (2, _)]) d23_22 rfl rfl (by decide) rfl ?_
        refine pm_goto (tgt := 2) d23_25 rfl ?_
        exact ih c_7 (fst_n hz9 (by simp_all))
      · refine pm_iload_n (i := 2) d23_20 rfl rfl ?_
        refine pm_iret d23_21 rfl (by first | rfl | exact nar_b _) ?_
        rw [fst_s hz9 (by simp_all) c_7] at h
        exact h
  refine pm_iconst (v := nI 0) d23_0 (by decide) ?_
  refine pm_istore_n (i := 2) (L2 := [(0, _), (1, _), (2, _)]) d23_1 rfl (by decide) rfl ?_
  exact lp 0 (Nat.zero_le _) rfl
def iabs (x : Int32) : Int32 := if 0 ≤ x then x else 0 - x
def imax (x y : Int32) : Int32 := if x < y then y else x
def imin (x y : Int32) : Int32 := if y < x then y else x
theorem tk_mx : allF (fun f => allN (nh f) (fun a => decide (imax (iabs (hx f a)) (imax (iabs (hy f a)) (iabs (hz f a))) = nI (mx f a)) && (decide (imin (iabs (hx f a)) (imin (iabs (hy f a)) (iabs (hz f a))) = nI (mn f a)) && (Nat.ble (mx f a) 6 && Nat.ble (mn f a) 6)))) = true := by decide +kernel
theorem bd_mx {f a : Nat} (h1 : 1 ≤ f) (h6 : f ≤ 6) (ha : a < nh f) : imax (iabs (hx f a)) (imax (iabs (hy f a)) (iabs (hz f a))) = nI (mx f a) ∧ imin (iabs (hx f a)) (imin (iabs (hy f a)) (iabs (hz f a))) = nI (mn f a) ∧ mx f a ≤ 6 ∧ mn f a ≤ 6 := by
  have h2 := allN_of (allF_of tk_mx h1 h6) ha
  simp only [Bool.and_eq_true, Nat.ble_eq, decide_eq_true_eq] at h2
  exact h2
theorem sp_15 {s : Stt} {A : Mem} {Q : Int32 → Mem → Prop} {a : Nat} (hI : CI s A) (ha : a < nh (sF s)) (h : Q (nI (mx (sF s) a)) A) : pm_P 15 0 [(0, .ref 1), (1, .int (nI a))] [] A Q := by
  have hb := CI_bd hI
  obtain ⟨a1, a2, a3⟩ := hI.2.1.1.2.2 a ha
  rw [← (bd_mx hI.1.1 hI.1.2.1 ha).1] at h
  refine pm_aload_n (i := 0) d15_0 rfl rfl ?_
  refine pm_getR d15_1 lf_2_9 rfl rfl ?_
  refine pm_iload_n (i := 1) d15_4 rfl rfl ?_
  refine pm_ialdN d15_5 rfl (by decide) (by omega) ?_
  refine pm_mabs d15_6 lm_2_28 (Nat.le_of_ble_eq_true rfl) (Nat.le_of_ble_eq_true rfl) ?_
  refine pm_aload_n (i := 0) d15_9 rfl rfl ?_
  refine pm_getR d15_10 lf_2_15 rfl rfl ?_
  refine pm_iload_n (i := 1) d15_13 rfl rfl ?_
  refine pm_ialdN d15_14 rfl (by decide) (by omega) ?_
  refine pm_mabs d15_15 lm_2_28 (Nat.le_of_ble_eq_true rfl) (Nat.le_of_ble_eq_true rfl) ?_
  refine pm_aload_n (i := 0) d15_18 rfl rfl ?_
  refine pm_getR d15_19 lf_2_18 rfl rfl ?_
  refine pm_iload_n (i := 1) d15_22 rfl rfl ?_
  refine pm_ialdN d15_23 rfl (by decide) (by omega) ?_
  refine pm_mabs d15_24 lm_2_28 (Nat.le_of_ble_eq_true rfl) (Nat.le_of_ble_eq_true rfl) ?_
  refine pm_mmax d15_27 lm_2_48 (Nat.le_of_ble_eq_true rfl) (Nat.le_of_ble_eq_true rfl) ?_
  refine pm_mmax d15_30 lm_2_48 (Nat.le_of_ble_eq_true rfl) (Nat.le_of_ble_eq_true rfl) ?_
  refine pm_iret d15_33 rfl (by first | rfl | exact nar_b _) ?_
  rw [a1, a2, a3]
  exact h
theorem sp_16 {s : Stt} {A : Mem} {Q : Int32 → Mem → Prop} {a : Nat} (hI : CI s A) (ha : a < nh (sF s)) (h : Q (nI (mn (sF s) a)) A) : pm_P 16 0 [(0, .ref 1), (1, .int (nI a))] [] A Q := by
  have hb := CI_bd hI
  obtain ⟨a1, a2, a3⟩ := hI.2.1.1.2.2 a ha
  rw [← (bd_mx hI.1.1 hI.1.2.1 ha).2.1] at h
  refine pm_aload_n (i := 0) d16_0 rfl rfl ?_
  refine pm_getR d16_1 lf_2_9 rfl rfl ?_
  refine pm_iload_n (i := 1) d16_4 rfl rfl ?_
  refine pm_ialdN d16_5 rfl (by decide) (by omega) ?_
  refine pm_mabs d16_6 lm_2_28 (Nat.le_of_ble_eq_true rfl) (Nat.le_of_ble_eq_true rfl) ?_
  refine pm_aload_n (i := 0) d16_9 rfl rfl ?_
  refine pm_getR d16_10 lf_2_15 rfl rfl ?_
  refine pm_iload_n (i := 1) d16_13 rfl rfl ?_
  refine pm_ialdN d16_14 rfl (by decide) (by omega) ?_
  refine pm_mabs d16_15 lm_2_28 (Nat.le_of_ble_eq_true rfl) (Nat.le_of_ble_eq_true rfl) ?_
  refine pm_aload_n (i := 0) d16_18 rfl rfl ?_
  refine pm_getR d16_19 lf_2_18 rfl rfl ?_
  refine pm_iload_n (i := 1) d16_22 rfl rfl ?_
  refine pm_ialdN d16_23 rfl (by decide) (by omega) ?_
  refine pm_mabs d16_24 lm_2_28 (Nat.le_of_ble_eq_true rfl) (Nat.le_of_ble_eq_true rfl) ?_
  refine pm_mmin d16_27 lm_2_51 (Nat.le_of_ble_eq_true rfl) (Nat.le_of_ble_eq_true rfl) ?_
  refine pm_mmin d16_30 lm_2_51 (Nat.le_of_ble_eq_true rfl) (Nat.le_of_ble_eq_true rfl) ?_
  refine pm_iret d16_33 rfl (by first | rfl | exact nar_b _) ?_
  rw [a1, a2, a3]
  exact h
def alp (f a i : Nat) : Bool := decide (mx f i = mx f a) && decide (mn f i = mn f a)
theorem sp_14 {s : Stt} {A : Mem} {Q : Int32 → Mem → Prop} {a : Nat} (hI : CI s A) (ha : a < nh (sF s)) (h : Q (nI (cnt (alp (sF s) a) (nh (sF s)))) A) : pm_P 14 0 [(0, .ref 1), (1, .int (nI a))] [] A Q := by
  have hb := CI_bd hI
  obtain ⟨-, -, m1, m2⟩ := bd_mx hI.1.1 hI.1.2.1 ha
  generalize hp : alp (sF s) a = p at h
  have hp : ∀ j, p j = (decide (mx (sF s) j = mx (sF s) a) && decide (mn (sF s) j = mn (sF s) a)) := fun j => by rw [← hp]; rfl
  have lp : ∀ i, i ≤ nh (sF s) → pm_P 14 4 [(0, .ref 1), (1, .int (nI a)), (2, .int (nI (cnt p i))), (3, .int (nI i))] [] A Q := by
    refine up_ind (fun i hi9 ih => ?_)
    refine pm_iload_n (i := 3) d14_4 rfl rfl ?_
    refine pm_aload_n (i := 0) d14_5 rfl rfl ?_
    refine pm_getE d14_6 lf_2_25 rfl rfl (CI_nh hI) ?_
    first | refine pm_icmp_geN (tgt := 47) d14_9 rfl (by omega) (by omega) (fun c_9 => ?_) (fun c_9 => ?_) | refine pm_icmp_ge (tgt := 47) d14_9 rfl (fun c_9 => ?_) (fun c_9 => ?_)
    · refine pm_iload_n (i := 2) d14_47 rfl rfl ?_
      refine pm_iret d14_48 rfl (by first | rfl | exact nar_b _) ?_
      rw [show i = nh (sF s) by omega]
      exact h
    · refine pm_aload_n (i := 0) d14_12 rfl rfl ?_
      refine pm_iload_n (i := 3) d14_13 rfl rfl ?_
      refine pm_callV (k2 := 15) (As := [_]) d14_14 lk_2_42 ok_15 rfl rfl rfl (Nat.le_of_ble_eq_true rfl) rfl rfl rfl rfl rfl ⟨Nat.le_of_ble_eq_true rfl, Nat.le_of_ble_eq_true rfl⟩ (Nat.le_of_ble_eq_true rfl) ?_
      have hm := bd_mx hI.1.1 hI.1.2.1 c_9
      refine sp_15 hI c_9 ?_
      refine pm_aload_n (i := 0) d14_17 rfl rfl ?_
      refine pm_iload_n (i := 1) d14_18 rfl rfl ?_
      refine pm_callV (k2 := 15) (As := [_]) d14_19 lk_2_42 ok_15 rfl rfl rfl (Nat.le_of_ble_eq_true rfl) rfl rfl rfl rfl rfl ⟨Nat.le_of_ble_eq_true rfl, Nat.le_of_ble_eq_true rfl⟩ (Nat.le_of_ble_eq_true rfl) ?_
      refine sp_15 hI ha ?_
      first | refine pm_icmp_neN (tgt := 41) d14_22 rfl (by omega) (by omega) (fun c_22 => ?_) (fun c_22 => ?_) | refine pm_icmp_ne (tgt := 41) d14_22 rfl (fun c_22 => ?_) (fun c_22 => ?_)
      · first | refine pm_iincN 1 (L2 := [(0, _), (1, _), (2, _), (3, _)]) d14_41 rfl (by decide) rfl ?_ | refine pm_iinc (L2 := [(0, _), (1, _), (2, _), (3, _)]) d14_41 rfl rfl (by decide) rfl ?_
        refine pm_goto (tgt := 4) d14_44 rfl ?_
        first | (rw [← cnt_t (p := p) (i := i) (by simp_all)]; exact ih c_9) | (rw [← cnt_f (p := p) (i := i) (by simp_all)]; exact ih c_9)
      · refine pm_aload_n (i := 0) d14_25 rfl rfl ?_
        refine pm_iload_n (i := 3) d14_26 rfl rfl ?_
        refine pm_callV (k2 := 16) (As := [_]) d14_27 lk_2_45 ok_16 rfl rfl rfl (Nat.le_of_ble_eq_true rfl) rfl rfl rfl rfl rfl ⟨Nat.le_of_ble_eq_true rfl, Nat.le_of_ble_eq_true rfl⟩ (Nat.le_of_ble_eq_true rfl) ?_
        refine sp_16 hI c_9 ?_
        refine pm_aload_n (i := 0) d14_30 rfl rfl ?_
        refine pm_iload_n (i := 1) d14_31 rfl rfl ?_
        refine pm_callV (k2 := 16) (As := [_]) d14_32 lk_2_45 ok_16 rfl rfl rfl (Nat.le_of_ble_eq_true rfl) rfl rfl rfl rfl rfl ⟨Nat.le_of_ble_eq_true rfl, Nat.le_of_ble_eq_true rfl⟩ (Nat.le_of_ble_eq_true rfl) ?_
        refine sp_16 hI ha ?_
        first | refine pm_icmp_neN (tgt := 41) d14_35 rfl (by omega) (by omega) (fun c_35 => ?_) (fun c_35 => ?_) | refine pm_icmp_ne (tgt := 41) d14_35 rfl (fun c_35 => ?_) (fun c_35 => ?_)
        · first | refine pm_iincN 1 (L2 := [(0, _), (1, _), (2, _), (3, _)]) d14_41 rfl (by decide) rfl ?_ | refine pm_iinc (L2 := [(0, _), (1, _), (2, _), (3, _)]) d14_41 rfl rfl (by decide) rfl ?_
          refine pm_goto (tgt := 4) d14_44 rfl ?_
          first | (rw [← cnt_t (p := p) (i := i) (by simp_all)]; exact ih c_9) | (rw [← cnt_f (p := p) (i := i) (by simp_all)]; exact ih c_9)
        · first | refine pm_iincN 1 (L2 := [(0, _), (1, _), (2, _), (3, _)]) d14_38 rfl (by decide) rfl ?_ | refine pm_iinc (L2 := [(0, _), (1, _), (2, _), (3, _)]) d14_38 rfl rfl (by decide) rfl ?_
          first | refine pm_iincN 1 (L2 := [(0, _), (1, _), (2, _), (3, _)]) d14_41 rfl (by decide) rfl ?_ | refine pm_iinc (L2 := [(0, _), (1, _), (2, _), (3, _)]) d14_41 rfl rfl (by decide) rfl ?_
          refine pm_goto (tgt := 4) d14_44 rfl ?_
          first | (rw [← cnt_t (p := p) (i := i) (by simp_all)]; exact ih c_9) | (rw [← cnt_f (p := p) (i := i) (by simp_all)]; exact ih c_9)
  refine pm_iconst (v := nI 0) d14_0 (by decide) ?_
  refine pm_istore_n (i := 2) (L2 := [(0, _), (1, _), (2, _)]) d14_1 rfl (by decide) rfl ?_
  refine pm_iconst (v := nI 0) d14_2 (by decide) ?_
  refine pm_istore_n (i := 3) (L2 := [(0, _), (1, _), (2, _), (3, _)]) d14_3 rfl (by decide) rfl ?_
  exact lp 0 (Nat.zero_le _)
/-- the length reaches so far -/
def rch (f q R l : Nat) : Bool := decide (l * l ≤ 2 * R * R) && decide (2 * R * R * (2 * R * R) * qn f q * qn f q ≤ (2 * R * R - l * l) * (2 * R * R - l * l) * qd f q)
theorem tb_q : allF (fun f => allN (nk f) (fun q => Nat.ble (qn f q) 36 && (Nat.ble (qd f q) 1023 && Nat.ble 1 (qd f q)))) = true := by decide +kernel
theorem bd_q {f q : Nat} (h1 : 1 ≤ f) (h6 : f ≤ 6) (hq : q < nk f) : qn f q ≤ 36 ∧ qd f q ≤ 1023 ∧ 1 ≤ qd f q := by
  have h2 := allN_of (allF_of tb_q h1 h6) hq
  simp only [Bool.and_eq_true, Nat.ble_eq] at h2
  exact h2
theorem mul4 {a b c d a2 b2 c2 d2 : Nat} (h1 : a ≤ a2) (h2 : b ≤ b2) (h3 : c ≤ c2) (h4 : d ≤ d2) : a * b * c * d ≤ a2 * b2 * c2 * d2 := Nat.mul_le_mul (Nat.mul_le_mul (Nat.mul_le_mul h1 h2) h3) h4
theorem sp_25 {f : Nat} {A : Mem} {Q : Int32 → Mem → Prop} {q R l : Nat} (h1 : 1 ≤ f) (h6 : f ≤ 6) (hK : ∀ q, q < nk f → A 16 q = nI (qn f q) ∧ A 17 q = nI (qd f q)) (hq : q < nk f) (hR : R ≤ 2000) (hl9 : l ≤ 4095) (h : Q (b2i (rch f q R l)) A) : pm_P 25 0 [(0, .ref 11), (1, .int (nI l)), (2, .int (nI q)), (3, .int (nI R))] [] A Q := by
  have hb := bd_n h1 h6
  obtain ⟨q1, q2, q3⟩ := bd_q h1 h6 hq
  obtain ⟨k1, k2⟩ := hK q hq
  have r2 : 2 * R * R ≤ 8000000 := by
    have := Nat.mul_le_mul (Nat.mul_le_mul (Nat.le_refl 2) hR) hR
    omega
  by_cases hle : l * l ≤ 2 * R * R
  · have rr : 2 * R * R - l * l ≤ 8000000 := by omega
    have bX : (2 * R * R - l * l) * (2 * R * R - l * l) * qd f q < 2 ^ 63 := by
      have := Nat.mul_le_mul (Nat.mul_le_mul rr rr) q2
      omega
    have bY : 2 * R * R * (2 * R * R) * qn f q * qn f q < 2 ^ 63 := by
      have := mul4 r2 r2 q1 q1
      omega
    refine pm_ldc2 (v := lN 2) d25_0 ll_3_75 ?_
    refine pm_iload_n (i := 3) d25_3 rfl rfl ?_
    first | refine pm_i2lN d25_4 (by omega) ?_ | refine pm_i2l d25_4 rfl ?_
    first | refine pm_lmulN d25_5 ?_ | refine pm_lmul d25_5 ?_
    refine pm_iload_n (i := 3) d25_6 rfl rfl ?_
    first | refine pm_i2lN d25_7 (by omega) ?_ | refine pm_i2l d25_7 rfl ?_
    first | refine pm_lmulN d25_8 ?_ | refine pm_lmul d25_8 ?_
    refine pm_lstore (L2 := [(0, _), (1, _), (2, _), (3, _), (4, _)]) d25_9 (by decide) rfl ?_
    refine pm_lload d25_11 rfl ?_
    refine pm_iload_n (i := 1) d25_13 rfl rfl ?_
    first | refine pm_i2lN d25_14 (by omega) ?_ | refine pm_i2l d25_14 rfl ?_
    refine pm_iload_n (i := 1) d25_15 rfl rfl ?_
    first | refine pm_i2lN d25_16 (by omega) ?_ | refine pm_i2l d25_16 rfl ?_
    first | refine pm_lmulN d25_17 ?_ | refine pm_lmul d25_17 ?_
    refine pm_lsub d25_18 ?_
    rw [lN_sub hle]
    refine pm_lstore (L2 := [(0, _), (1, _), (2, _), (3, _), (4, _), (6, _)]) d25_19 (by decide) rfl ?_
    refine pm_lload d25_21 rfl ?_
    refine pm_lconst (v := lN 0) d25_23 rfl ?_
    refine pm_lcmp d25_24 ?_
    refine pm_if_lt (tgt := 70) d25_25 rfl (fun c_25 => ?_) (fun c_25 => ?_)
    · exact absurd c_25 (by rw [lg_cmp_lt, lN_lt63 (by omega) (by omega)]; omega)
    · refine pm_lload d25_28 rfl ?_
      refine pm_lload d25_30 rfl ?_
      first | refine pm_lmulN d25_32 ?_ | refine pm_lmul d25_32 ?_
      refine pm_aload_n (i := 0) d25_33 rfl rfl ?_
      refine pm_getR d25_34 lf_3_27 rfl rfl ?_
      refine pm_iload_n (i := 2) d25_37 rfl rfl ?_
      refine pm_ialdN d25_38 rfl (by decide) (by omega) ?_
      rw [k2]
      first | refine pm_i2lN d25_39 (by omega) ?_ | refine pm_i2l d25_39 rfl ?_
      first | refine pm_lmulN d25_40 ?_ | refine pm_lmul d25_40 ?_
      refine pm_lload d25_41 rfl ?_
      refine pm_lload d25_43 rfl ?_
      first | refine pm_lmulN d25_45 ?_ | refine pm_lmul d25_45 ?_
      refine pm_aload_n (i := 0) d25_46 rfl rfl ?_
      refine pm_getR d25_47 lf_3_24 rfl rfl ?_
      refine pm_iload_n (i := 2) d25_50 rfl rfl ?_
      refine pm_ialdN d25_51 rfl (by decide) (by omega) ?_
      rw [k1]
      first | refine pm_i2lN d25_52 (by omega) ?_ | refine pm_i2l d25_52 rfl ?_
      first | refine pm_lmulN d25_53 ?_ | refine pm_lmul d25_53 ?_
      refine pm_aload_n (i := 0) d25_54 rfl rfl ?_
      refine pm_getR d25_55 lf_3_24 rfl rfl ?_
      refine pm_iload_n (i := 2) d25_58 rfl rfl ?_
      refine pm_ialdN d25_59 rfl (by decide) (by omega) ?_
      rw [k1]
      first | refine pm_i2lN d25_60 (by omega) ?_ | refine pm_i2l d25_60 rfl ?_
      first | refine pm_lmulN d25_61 ?_ | refine pm_lmul d25_61 ?_
      refine pm_lcmp d25_62 ?_
      refine pm_if_lt (tgt := 70) d25_63 rfl (fun c_63 => ?_) (fun c_63 => ?_)
      · have e : rch f q R l = false := by
          rw [lg_cmp_lt, lN_lt63 bX bY] at c_63
          simp only [rch, Bool.and_eq_false_iff, decide_eq_false_iff_not]
          right
          omega
        rw [e] at h
        refine pm_iconst (v := nI 0) d25_70 (by decide) ?_
        exact pm_iret d25_71 rfl rfl h
      · refine pm_iconst (v := nI 1) d25_66 (by decide) ?_
        refine pm_goto (tgt := 71) d25_67 rfl ?_
        refine pm_iret d25_71 rfl (by first | rfl | exact nar_b _) ?_
        have e : rch f q R l = true := by
          rw [lg_cmp_lt, lN_lt63 bX bY] at c_63
          simp only [rch, Bool.and_eq_true, decide_eq_true_eq]
          omega
        rw [e] at h
        exact h
  · skip
    refine pm_ldc2 (v := lN 2) d25_0 ll_3_75 ?_
    refine pm_iload_n (i := 3) d25_3 rfl rfl ?_
    first | refine pm_i2lN d25_4 (by omega) ?_ | refine pm_i2l d25_4 rfl ?_
    first | refine pm_lmulN d25_5 ?_ | refine pm_lmul d25_5 ?_
    refine pm_iload_n (i := 3) d25_6 rfl rfl ?_
    first | refine pm_i2lN d25_7 (by omega) ?_ | refine pm_i2l d25_7 rfl ?_
    first | refine pm_lmulN d25_8 ?_ | refine pm_lmul d25_8 ?_
    refine pm_lstore (L2 := [(0, _), (1, _), (2, _), (3, _), (4, _)]) d25_9 (by decide) rfl ?_
    refine pm_lload d25_11 rfl ?_
    refine pm_iload_n (i := 1) d25_13 rfl rfl ?_
    first | refine pm_i2lN d25_14 (by omega) ?_ | refine pm_i2l d25_14 rfl ?_
    refine pm_iload_n (i := 1) d25_15 rfl rfl ?_
    first | refine pm_i2lN d25_16 (by omega) ?_ | refine pm_i2l d25_16 rfl ?_
    first | refine pm_lmulN d25_17 ?_ | refine pm_lmul d25_17 ?_
    refine pm_lsub d25_18 ?_
    refine pm_lstore (L2 := [(0, _), (1, _), (2, _), (3, _), (4, _), (6, _)]) d25_19 (by decide) rfl ?_
    refine pm_lload d25_21 rfl ?_
    refine pm_lconst (v := lN 0) d25_23 rfl ?_
    refine pm_lcmp d25_24 ?_
    refine pm_if_lt (tgt := 70) d25_25 rfl (fun c_25 => ?_) (fun c_25 => ?_)
    · have e : rch f q R l = false := by simp [rch, hle]
      rw [e] at h
      refine pm_iconst (v := nI 0) d25_70 (by decide) ?_
      exact pm_iret d25_71 rfl rfl h
    · refine absurd ?_ c_25
      rw [lg_cmp_lt]
      exact lN_neg (by omega) (by have := Nat.mul_le_mul hl9 hl9; omega)
/-- the greatest number below 2^j more than l that p reaches, bit by bit -/
def lenD (p : Nat → Bool) : Nat → Nat → Nat
  | 0, l => l
  | j + 1, l => lenD p j (if p (l + 2 ^ j) then l + 2 ^ j else l)
def len (f q R : Nat) : Nat := lenD (rch f q R) 12 0
theorem lenD_lt (p : Nat → Bool) : ∀ j l, lenD p j l < l + 2 ^ j := by
  intro j
  induction j with
  | zero => intro l; simp [lenD]
  | succ j ih =>
    intro l
    have e : 2 ^ (j + 1) = 2 ^ j + 2 ^ j := by rw [Nat.pow_succ]; omega
    have i1 := ih (l + 2 ^ j)
    have i2 := ih l
    have p0 : 0 < 2 ^ j := Nat.pow_pos (by omega)
    simp only [lenD]
    by_cases hp : p (l + 2 ^ j) = true
    · rw [if_pos hp]; omega
    · rw [if_neg hp]; omega
theorem sp_24 {f : Nat} {A : Mem} {Q : Int32 → Mem → Prop} {q R : Nat} (h1 : 1 ≤ f) (h6 : f ≤ 6) (hK : ∀ q, q < nk f → A 16 q = nI (qn f q) ∧ A 17 q = nI (qd f q)) (hq : q < nk f) (hR : R ≤ 2000) (h : Q (nI (len f q R)) A) : pm_P 24 0 [(0, .ref 11), (1, .int (nI q)), (2, .int (nI R))] [] A Q := by
  have hb := bd_n h1 h6
  have lp : ∀ j, j ≤ 12 → ∀ l, l + 2 ^ j ≤ 4096 → Q (nI (lenD (rch f q R) j l)) A → pm_P 24 7 [(0, .ref 11), (1, .int (nI q)), (2, .int (nI R)), (3, .int (nI l)), (4, .int (nI (2 ^ j / 2)))] [] A Q := by
    intro j
    induction j with
    | zero =>
      intro _ l hl9 h
      refine pm_iload d24_7 rfl ?_
      first | refine pm_if_leN (tgt := 39) d24_9 rfl (by omega) (fun c_9 => ?_) (fun c_9 => ?_) | refine pm_if_le (tgt := 39) d24_9 rfl (fun c_9 => ?_) (fun c_9 => ?_)
      · refine pm_iload_n (i := 3) d24_39 rfl rfl ?_
        refine pm_iret d24_40 rfl (by first | rfl | exact nar_b _) ?_
        exact h
      · omega
    | succ j ih =>
      intro hj l hl9 h
      have e : 2 ^ (j + 1) = 2 ^ j + 2 ^ j := by rw [Nat.pow_succ]; omega
      have e2 : 2 ^ (j + 1) / 2 = 2 ^ j := by omega
      have p0 : 0 < 2 ^ j := Nat.pow_pos (by omega)
      have p2 : 2 ^ j ≤ 2 ^ 11 := Nat.pow_le_pow_right (by omega) (by omega)
      have hsh := nI_half j (by omega)
      simp only [lenD] at h
      rw [e2] at hsh ⊢
      refine pm_iload d24_7 rfl ?_
      first | refine pm_if_leN (tgt := 39) d24_9 rfl (by omega) (fun c_9 => ?_) (fun c_9 => ?_) | refine pm_if_le (tgt := 39) d24_9 rfl (fun c_9 => ?_) (fun c_9 => ?_)
      · omega
      · refine pm_aload_n (i := 0) d24_12 rfl rfl ?_
        refine pm_iload_n (i := 3) d24_13 rfl rfl ?_
        refine pm_iload d24_14 rfl ?_
        first | refine pm_iaddN d24_16 ?_ | refine pm_iadd d24_16 ?_
        refine pm_iload_n (i := 1) d24_17 rfl rfl ?_
        refine pm_iload_n (i := 2) d24_18 rfl rfl ?_
        refine pm_callV (k2 := 25) (As := [_, _, _]) d24_19 lk_3_71 ok_25 rfl rfl rfl (Nat.le_of_ble_eq_true rfl) rfl rfl rfl rfl rfl ⟨Nat.le_of_ble_eq_true rfl, Nat.le_of_ble_eq_true rfl⟩ (Nat.le_of_ble_eq_true rfl) ?_
        refine sp_25 h1 h6 hK hq hR (by omega) ?_
        first | refine pm_if_eqB (tgt := 30) d24_22 rfl (fun c_22 => ?_) (fun c_22 => ?_) | refine pm_if_eqN (tgt := 30) d24_22 rfl (by omega) (fun c_22 => ?_) (fun c_22 => ?_) | refine pm_if_eq (tgt := 30) d24_22 rfl (fun c_22 => ?_) (fun c_22 => ?_)
        · refine pm_iload d24_30 rfl ?_
          refine pm_iconst (v := nI 1) d24_32 (by decide) ?_
          refine pm_ishr d24_33 ?_
          rw [hsh]
          refine pm_istore (L2 := [(0, _), (1, _), (2, _), (3, _), (4, _)]) d24_34 (by decide) rfl ?_
          refine pm_goto (tgt := 7) d24_36 rfl ?_
          first | (rw [if_pos c_22] at h; exact ih (by omega) _ (by omega) h) | (rw [if_neg (by simp [c_22])] at h; exact ih (by omega) _ (by omega) h)
        · refine pm_iload_n (i := 3) d24_25 rfl rfl ?_
          refine pm_iload d24_26 rfl ?_
          first | refine pm_iaddN d24_28 ?_ | refine pm_iadd d24_28 ?_
          refine pm_istore_n (i := 3) (L2 := [(0, _), (1, _), (2, _), (3, _), (4, _)]) d24_29 rfl (by decide) rfl ?_
          refine pm_iload d24_30 rfl ?_
          refine pm_iconst (v := nI 1) d24_32 (by decide) ?_
          refine pm_ishr d24_33 ?_
          rw [hsh]
          refine pm_istore (L2 := [(0, _), (1, _), (2, _), (3, _), (4, _)]) d24_34 (by decide) rfl ?_
          refine pm_goto (tgt := 7) d24_36 rfl ?_
          first | (rw [if_pos c_22] at h; exact ih (by omega) _ (by omega) h) | (rw [if_neg (by simp [c_22])] at h; exact ih (by omega) _ (by omega) h)
  refine pm_iconst (v := nI 0) d24_0 (by decide) ?_
  refine pm_istore_n (i := 3) (L2 := [(0, _), (1, _), (2, _), (3, _)]) d24_1 rfl (by decide) rfl ?_
  refine pm_sipush (v := nI 2048) d24_2 (by decide) ?_
  refine pm_istore (L2 := [(0, _), (1, _), (2, _), (3, _), (4, _)]) d24_5 (by decide) rfl ?_
  exact lp 12 (by omega) 0 (by omega) h
theorem len_lt (f q R : Nat) : len f q R < 4096 := by
  have := lenD_lt (rch f q R) 12 0
  unfold len
  omega
theorem sp_103 {s : Stt} {A : Mem} {Q : Int32 → Mem → Prop} {i : Nat} (hI : CI s A) (hi9 : i < nf (sF s)) (h : Q (nI (len (sF s) (ko (sF s) (sd (sF s) (3 * i))) (sR s) + len (sF s) (ko (sF s) (sd (sF s) (3 * i + 1))) (sR s) + len (sF s) (ko (sF s) (sd (sF s) (3 * i + 2))) (sR s))) A) : pm_P 103 0 [(0, .ref 0), (1, .int (nI i))] [] A Q := by
  have hb := CI_bd hI
  have hR : sR s ≤ 2000 := hI.1.2.2.2.1
  have st : ∀ j, j < 3 → ∀ acc, (∀ acc2, acc2 = acc + len (sF s) (ko (sF s) (sd (sF s) (3 * i + j))) (sR s) → pm_P 103 4 [(0, .ref 0), (1, .int (nI i)), (2, .int (nI acc2)), (3, .int (nI (j + 1)))] [] A Q) → pm_P 103 4 [(0, .ref 0), (1, .int (nI i)), (2, .int (nI acc)), (3, .int (nI j))] [] A Q := by
    intro j hj acc hn
    have e0 := CI_sd hI (i := 3 * i + j) (by omega)
    have b0 := (bd_f hI.1.1 hI.1.2.1 (i := 3 * i + j) (by omega)).2
    have k0 := (bd_s hI.1.1 hI.1.2.1 b0).2.2.1
    refine pm_iload_n (i := 3) d103_4 rfl rfl ?_
    refine pm_iconst (v := nI 3) d103_5 (by decide) ?_
    first | refine pm_icmp_geN (tgt := 53) d103_6 rfl (by omega) (by omega) (fun c_6 => ?_) (fun c_6 => ?_) | refine pm_icmp_ge (tgt := 53) d103_6 rfl (fun c_6 => ?_) (fun c_6 => ?_)
    · omega
    · refine pm_iload_n (i := 2) d103_9 rfl rfl ?_
      refine pm_aload_n (i := 0) d103_10 rfl rfl ?_
      refine pm_getR d103_11 lf_10_26 rfl rfl ?_
      refine pm_aload_n (i := 0) d103_14 rfl rfl ?_
      refine pm_getR d103_15 lf_10_26 rfl rfl ?_
      refine pm_getR d103_18 lf_10_218 rfl rfl ?_
      refine pm_aload_n (i := 0) d103_21 rfl rfl ?_
      refine pm_getR d103_22 lf_10_33 rfl rfl ?_
      refine pm_getR d103_25 lf_10_320 rfl rfl ?_
      refine pm_iconst (v := nI 3) d103_28 (by decide) ?_
      refine pm_iload_n (i := 1) d103_29 rfl rfl ?_
      first | refine pm_imulN d103_30 ?_ | refine pm_imul d103_30 ?_
      refine pm_iload_n (i := 3) d103_31 rfl rfl ?_
      first | refine pm_iaddN d103_32 ?_ | refine pm_iadd d103_32 ?_
      refine pm_ialdN d103_33 rfl (by decide) (by omega) ?_
      rw [e0]
      refine pm_ialdN d103_34 rfl (by decide) (by omega) ?_
      rw [CI_ko hI b0]
      refine pm_aload_n (i := 0) d103_35 rfl rfl ?_
      refine pm_getR d103_36 lf_10_40 rfl rfl ?_
      refine pm_getE d103_39 lf_10_107 rfl rfl (hI.2.2.2.1) ?_
      refine pm_callV (k2 := 24) (As := [_, _]) d103_42 lk_10_221 ok_24 rfl rfl rfl (Nat.le_of_ble_eq_true rfl) rfl rfl rfl rfl rfl ⟨Nat.le_of_ble_eq_true rfl, Nat.le_of_ble_eq_true rfl⟩ (Nat.le_of_ble_eq_true rfl) ?_
      refine sp_24 hI.1.1 hI.1.2.1 hI.2.1.2.2.1.2.2.2 k0 hR ?_
      first | refine pm_iaddN d103_45 ?_ | refine pm_iadd d103_45 ?_
      refine pm_istore_n (i := 2) (L2 := [(0, _), (1, _), (2, _), (3, _)]) d103_46 rfl (by decide) rfl ?_
      first | refine pm_iincN 1 (L2 := [(0, _), (1, _), (2, _), (3, _)]) d103_47 rfl (by decide) rfl ?_ | refine pm_iinc (L2 := [(0, _), (1, _), (2, _), (3, _)]) d103_47 rfl rfl (by decide) rfl ?_
      refine pm_goto (tgt := 4) d103_50 rfl ?_
      exact hn _ rfl
  refine pm_iconst (v := nI 0) d103_0 (by decide) ?_
  refine pm_istore_n (i := 2) (L2 := [(0, _), (1, _), (2, _)]) d103_1 rfl (by decide) rfl ?_
  refine pm_iconst (v := nI 0) d103_2 (by decide) ?_
  refine pm_istore_n (i := 3) (L2 := [(0, _), (1, _), (2, _), (3, _)]) d103_3 rfl (by decide) rfl ?_
  refine st 0 (by omega) 0 (fun a1 ha1 => st 1 (by omega) a1 (fun a2 ha2 => st 2 (by omega) a2 (fun a3 ha3 => ?_)))
  rw [Nat.zero_add] at ha1
  have ha : a3 = len (sF s) (ko (sF s) (sd (sF s) (3 * i))) (sR s) + len (sF s) (ko (sF s) (sd (sF s) (3 * i + 1))) (sR s) + len (sF s) (ko (sF s) (sd (sF s) (3 * i + 2))) (sR s) := by rw [ha3, ha2, ha1]; rfl
  rw [← ha] at h
  clear st
  refine pm_iload_n (i := 3) d103_4 rfl rfl ?_
  refine pm_iconst (v := nI 3) d103_5 (by decide) ?_
  first | refine pm_icmp_geN (tgt := 53) d103_6 rfl (by omega) (by omega) (fun c_6 => ?_) (fun c_6 => ?_) | refine pm_icmp_ge (tgt := 53) d103_6 rfl (fun c_6 => ?_) (fun c_6 => ?_)
  · refine pm_iload_n (i := 2) d103_53 rfl rfl ?_
    refine pm_iret d103_54 rfl (by first | rfl | exact nar_b _) ?_
    exact h
  · omega
