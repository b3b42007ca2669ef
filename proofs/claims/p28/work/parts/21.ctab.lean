/-! the class's answers out of the tables: find, product, between, greatest .. -/
def fdp (f : Nat) (x y z : Int32) (i : Nat) : Bool := decide (hx f i = x) && (decide (hy f i = y) && decide (hz f i = z))
def pr (f a b : Nat) : Int32 := hx f a * hx f b + hy f a * hy f b + hz f a * hz f b
theorem sp_11 {f : Nat} {A : Mem} {Q : Int32 → Mem → Prop} {a b : Nat} (h1 : 1 ≤ f) (h6 : f ≤ 6) (hB : BH f A) (ha : a < nh f) (hb : b < nh f) (h : Q (pr f a b) A) : pm_P 11 0 [(0, .ref 1), (1, .int (nI a)), (2, .int (nI b))] [] A Q := by
  have hbd := bd_n h1 h6
  obtain ⟨a1, a2, a3⟩ := hB.2.2 a ha
  obtain ⟨b1, b2, b3⟩ := hB.2.2 b hb
  refine pm_aload_n (i := 0) d11_0 rfl rfl ?_
  refine pm_getR d11_1 lf_2_9 rfl rfl ?_
  refine pm_iload_n (i := 1) d11_4 rfl rfl ?_
  refine pm_ialdN d11_5 rfl (by decide) (by omega) ?_
  refine pm_aload_n (i := 0) d11_6 rfl rfl ?_
  refine pm_getR d11_7 lf_2_9 rfl rfl ?_
  refine pm_iload_n (i := 2) d11_10 rfl rfl ?_
  refine pm_ialdN d11_11 rfl (by decide) (by omega) ?_
  refine pm_imul d11_12 ?_
  refine pm_aload_n (i := 0) d11_13 rfl rfl ?_
  refine pm_getR d11_14 lf_2_15 rfl rfl ?_
  refine pm_iload_n (i := 1) d11_17 rfl rfl ?_
  refine pm_ialdN d11_18 rfl (by decide) (by omega) ?_
  refine pm_aload_n (i := 0) d11_19 rfl rfl ?_
  refine pm_getR d11_20 lf_2_15 rfl rfl ?_
  refine pm_iload_n (i := 2) d11_23 rfl rfl ?_
  refine pm_ialdN d11_24 rfl (by decide) (by omega) ?_
  refine pm_imul d11_25 ?_
  refine pm_iadd d11_26 ?_
  refine pm_aload_n (i := 0) d11_27 rfl rfl ?_
  refine pm_getR d11_28 lf_2_18 rfl rfl ?_
  refine pm_iload_n (i := 1) d11_31 rfl rfl ?_
  refine pm_ialdN d11_32 rfl (by decide) (by omega) ?_
  refine pm_aload_n (i := 0) d11_33 rfl rfl ?_
  refine pm_getR d11_34 lf_2_18 rfl rfl ?_
  refine pm_iload_n (i := 2) d11_37 rfl rfl ?_
  refine pm_ialdN d11_38 rfl (by decide) (by omega) ?_
  refine pm_imul d11_39 ?_
  refine pm_iadd d11_40 ?_
  refine pm_iret d11_41 rfl (by first | rfl | exact nar_b _) ?_
  rw [a1, a2, a3, b1, b2, b3]
  exact h
theorem sp_48 {f : Nat} {A : Mem} {Q : Int32 → Mem → Prop} {a b : Nat} (h1 : 1 ≤ f) (h6 : f ≤ 6) (hB : BS f A) (ha : a < nh f) (hb : b < nh f) (h : Q (opI (-1) ((fst (fun j => decide (lh f (a * 6 + j) = b)) (dg f a)).map (fun j => lk f (a * 6 + j)))) A) : pm_P 48 0 [(0, .ref 5), (1, .int (nI a)), (2, .int (nI b))] [] A Q := by
  have hbd := bd_n h1 h6
  have hd := bd_a h1 h6 ha
  generalize hp : (fun j => decide (lh f (a * 6 + j) = b)) = p at h
  have hp : ∀ j, p j = decide (lh f (a * 6 + j) = b) := fun j => by rw [← hp]
  have lp : ∀ i, i ≤ dg f a → fst p i = none → pm_P 48 2 [(0, .ref 5), (1, .int (nI a)), (2, .int (nI b)), (3, .int (nI i))] [] A Q := by
    refine up_ind (fun i hi9 ih hz9 => ?_)
    refine pm_iload_n (i := 3) d48_2 rfl rfl ?_
    refine pm_aload_n (i := 0) d48_3 rfl rfl ?_
    refine pm_getR d48_4 lf_7_18 rfl rfl ?_
    refine pm_iload_n (i := 1) d48_7 rfl rfl ?_
    refine pm_ialdN d48_8 rfl (by decide) (by omega) ?_
    rw [hB.2.2.1 a ha]
    first | refine pm_icmp_geN (tgt := 45) d48_9 rfl (by omega) (by omega) (fun c_9 => ?_) (fun c_9 => ?_) | refine pm_icmp_ge (tgt := 45) d48_9 rfl (fun c_9 => ?_) (fun c_9 => ?_)
    · refine pm_iconst (v := -1) d48_45 (by decide) ?_
      refine pm_iret d48_46 rfl (by first | rfl | exact nar_b _) ?_
      rw [show i = dg f a by omega] at hz9
      rw [hz9] at h
      exact h
    · refine pm_aload_n (i := 0) d48_12 rfl rfl ?_
      refine pm_getR d48_13 lf_7_21 rfl rfl ?_
      refine pm_iload_n (i := 1) d48_16 rfl rfl ?_
      refine pm_bipush (v := nI 6) d48_17 (by decide) ?_
      first | refine pm_imulN d48_19 ?_ | refine pm_imul d48_19 ?_
      refine pm_iload_n (i := 3) d48_20 rfl rfl ?_
      first | refine pm_iaddN d48_21 ?_ | refine pm_iadd d48_21 ?_
      refine pm_ialdN d48_22 rfl (by decide) (by omega) ?_
      rw [(hB.2.2.2 a i ha c_9).1]
      have hl9 := (hd.2 i c_9).1
      refine pm_iload_n (i := 2) d48_23 rfl rfl ?_
      first | refine pm_icmp_neN (tgt := 39) d48_24 rfl (by omega) (by omega) (fun c_24 => ?_) (fun c_24 => ?_) | refine pm_icmp_ne (tgt := 39) d48_24 rfl (fun c_24 => ?_) (fun c_24 => ?_)
      · first | refine pm_iincN 1 (L2 := [(0, _), (1, _), (2, _), (3, _)]) d48_39 rfl (by decide) rfl ?_ | refine pm_iinc (L2 := [(0, _), (1, _), (2, _), (3, _)]) d48_39 rfl rfl (by decide) rfl ?_
        refine pm_goto (tgt := 2) d48_42 rfl ?_
        exact ih c_9 (fst_n hz9 (by simp_all))
      · refine pm_aload_n (i := 0) d48_27 rfl rfl ?_
        refine pm_getR d48_28 lf_7_24 rfl rfl ?_
        refine pm_iload_n (i := 1) d48_31 rfl rfl ?_
        refine pm_bipush (v := nI 6) d48_32 (by decide) ?_
        first | refine pm_imulN d48_34 ?_ | refine pm_imul d48_34 ?_
        refine pm_iload_n (i := 3) d48_35 rfl rfl ?_
        first | refine pm_iaddN d48_36 ?_ | refine pm_iadd d48_36 ?_
        refine pm_ialdN d48_37 rfl (by decide) (by omega) ?_
        rw [(hB.2.2.2 a i ha c_9).2]
        refine pm_iret d48_38 rfl (by first | rfl | exact nar_b _) ?_
        rw [fst_s hz9 (by simp_all) c_9] at h
        exact h
  refine pm_iconst (v := nI 0) d48_0 (by decide) ?_
  refine pm_istore_n (i := 3) (L2 := [(0, _), (1, _), (2, _), (3, _)]) d48_1 rfl (by decide) rfl ?_
  exact lp 0 (Nat.zero_le _) rfl
def iabs (x : Int32) : Int32 := if 0 ≤ x then x else 0 - x
def imax (x y : Int32) : Int32 := if x < y then y else x
def imin (x y : Int32) : Int32 := if y < x then y else x
theorem tk_mx : allF (fun f => allN (nh f) (fun a => decide (imax (iabs (hx f a)) (imax (iabs (hy f a)) (iabs (hz f a))) = nI (mx f a)) && (decide (imin (iabs (hx f a)) (imin (iabs (hy f a)) (iabs (hz f a))) = nI (mn f a)) && (Nat.ble (mx f a) 6 && Nat.ble (mn f a) 6)))) = true := by decide +kernel
theorem bd_mx {f a : Nat} (h1 : 1 ≤ f) (h6 : f ≤ 6) (ha : a < nh f) : imax (iabs (hx f a)) (imax (iabs (hy f a)) (iabs (hz f a))) = nI (mx f a) ∧ imin (iabs (hx f a)) (imin (iabs (hy f a)) (iabs (hz f a))) = nI (mn f a) ∧ mx f a ≤ 6 ∧ mn f a ≤ 6 := by
  have h2 := allN_of (allF_of tk_mx h1 h6) ha
  simp only [Bool.and_eq_true, Nat.ble_eq, decide_eq_true_eq] at h2
  exact h2
def alp (f a i : Nat) : Bool := decide (mx f i = mx f a) && decide (mn f i = mn f a)
/-- the length reaches so far -/
def rch (f q R l : Nat) : Bool := decide (l * l ≤ 2 * R * R) && decide (2 * R * R * (2 * R * R) * qn f q * qn f q ≤ (2 * R * R - l * l) * (2 * R * R - l * l) * qd f q)
theorem tb_q : allF (fun f => allN (nk f) (fun q => Nat.ble (qn f q) 36 && (Nat.ble (qd f q) 1023 && Nat.ble 1 (qd f q)))) = true := by decide +kernel
theorem bd_q {f q : Nat} (h1 : 1 ≤ f) (h6 : f ≤ 6) (hq : q < nk f) : qn f q ≤ 36 ∧ qd f q ≤ 1023 ∧ 1 ≤ qd f q := by
  have h2 := allN_of (allF_of tb_q h1 h6) hq
  simp only [Bool.and_eq_true, Nat.ble_eq] at h2
  exact h2
theorem mul4 {a b c d a2 b2 c2 d2 : Nat} (h1 : a ≤ a2) (h2 : b ≤ b2) (h3 : c ≤ c2) (h4 : d ≤ d2) : a * b * c * d ≤ a2 * b2 * c2 * d2 := Nat.mul_le_mul (Nat.mul_le_mul (Nat.mul_le_mul h1 h2) h3) h4
theorem sp_25 {f : Nat} {A : Mem} {Q : Int32 → Mem → Prop} {q R l : Nat} (h1 : 1 ≤ f) (h6 : f ≤ 6) (hK : ∀ q, q < nk f → A 16 q = nI (qn f q) ∧ A 17 q = nI (qd f q)) (hq : q < nk f) (hR : R ≤ 2000) (hl9 : l ≤ 4095) (h : Q (b2i (rch f q R l)) A) : pm_P 25 0 [(0, .ref 11), (1, .int (nI l)), (2, .int (nI q)), (3, .int (nI R))] [] A Q := by
  have hb := bd_n h1 h6
  obtain ⟨q1, q2, q3⟩ := bd_q h1 h6 hq
  obtain ⟨k1, k2⟩ := hK q hq
  have r2 : 2 * R * R ≤ 8000000 := by
    have := Nat.mul_le_mul (Nat.mul_le_mul (Nat.le_refl 2) hR) hR
    omega
  by_cases hle : l * l ≤ 2 * R * R
  · have rr : 2 * R * R - l * l ≤ 8000000 := by omega
    have bX : (2 * R * R - l * l) * (2 * R * R - l * l) * qd f q < 2 ^ 63 := by
      have := Nat.mul_le_mul (Nat.mul_le_mul rr rr) q2
      omega
    have bY : 2 * R * R * (2 * R * R) * qn f q * qn f q < 2 ^ 63 := by
      have := mul4 r2 r2 q1 q1
      omega
    refine pm_ldc2 (v := lN 2) d25_0 ll_3_75 ?_
    refine pm_iload_n (i := 3) d25_3 rfl rfl ?_
    first | refine pm_i2lN d25_4 (by omega) ?_ | refine pm_i2l d25_4 rfl ?_
    first | refine pm_lmulN d25_5 ?_ | refine pm_lmul d25_5 ?_
    refine pm_iload_n (i := 3) d25_6 rfl rfl ?_
    first | refine pm_i2lN d25_7 (by omega) ?_ | refine pm_i2l d25_7 rfl ?_
    first | refine pm_lmulN d25_8 ?_ | refine pm_lmul d25_8 ?_
    refine pm_lstore (L2 := [(0, _), (1, _), (2, _), (3, _), (4, _)]) d25_9 (by decide) rfl ?_
    refine pm_lload d25_11 rfl ?_
    refine pm_iload_n (i := 1) d25_13 rfl rfl ?_
    first | refine pm_i2lN d25_14 (by omega) ?_ | refine pm_i2l d25_14 rfl ?_
    refine pm_iload_n (i := 1) d25_15 rfl rfl ?_
    first | refine pm_i2lN d25_16 (by omega) ?_ | refine pm_i2l d25_16 rfl ?_
    first | refine pm_lmulN d25_17 ?_ | refine pm_lmul d25_17 ?_
    refine pm_lsub d25_18 ?_
    rw [lN_sub hle]
    refine pm_lstore (L2 := [(0, _), (1, _), (2, _), (3, _), (4, _), (6, _)]) d25_19 (by decide) rfl ?_
    refine pm_lload d25_21 rfl ?_
    refine pm_lconst (v := lN 0) d25_23 rfl ?_
    refine pm_lcmp d25_24 ?_
    refine pm_if_lt (tgt := 70) d25_25 rfl (fun c_25 => ?_) (fun c_25 => ?_)
    · exact absurd c_25 (by rw [lg_cmp_lt, lN_lt63 (by omega) (by omega)]; omega)
    · refine pm_lload d25_28 rfl ?_
      refine pm_lload d25_30 rfl ?_
      first | refine pm_lmulN d25_32 ?_ | refine pm_lmul d25_32 ?_
      refine pm_aload_n (i := 0) d25_33 rfl rfl ?_
      refine pm_getR d25_34 lf_3_27 rfl rfl ?_
      refine pm_iload_n (i := 2) d25_37 rfl rfl ?_
      refine pm_ialdN d25_38 rfl (by decide) (by omega) ?_
      rw [k2]
      first | refine pm_i2lN d25_39 (by omega) ?_ | refine pm_i2l d25_39 rfl ?_
      first | refine pm_lmulN d25_40 ?_ | refine pm_lmul d25_40 ?_
      refine pm_lload d25_41 rfl ?_
      refine pm_lload d25_43 rfl ?_
      first | refine pm_lmulN d25_45 ?_ | refine pm_lmul d25_45 ?_
      refine pm_aload_n (i := 0) d25_46 rfl rfl ?_
      refine pm_getR d25_47 lf_3_24 rfl rfl ?_
      refine pm_iload_n (i := 2) d25_50 rfl rfl ?_
      refine pm_ialdN d25_51 rfl (by decide) (by omega) ?_
      rw [k1]
      first | refine pm_i2lN d25_52 (by omega) ?_ | refine pm_i2l d25_52 rfl ?_
      first | refine pm_lmulN d25_53 ?_ | refine pm_lmul d25_53 ?_
      refine pm_aload_n (i := 0) d25_54 rfl rfl ?_
      refine pm_getR d25_55 lf_3_24 rfl rfl ?_
      refine pm_iload_n (i := 2) d25_58 rfl rfl ?_
      refine pm_ialdN d25_59 rfl (by decide) (by omega) ?_
      rw [k1]
      first | refine pm_i2lN d25_60 (by omega) ?_ | refine pm_i2l d25_60 rfl ?_
      first | refine pm_lmulN d25_61 ?_ | refine pm_lmul d25_61 ?_
      refine pm_lcmp d25_62 ?_
      refine pm_if_lt (tgt := 70) d25_63 rfl (fun c_63 => ?_) (fun c_63 => ?_)
      · have e : rch f q R l = false := by
          rw [lg_cmp_lt, lN_lt63 bX bY] at c_63
          simp only [rch, Bool.and_eq_false_iff, decide_eq_false_iff_not]
          right
          omega
        rw [e] at h
        refine pm_iconst (v := nI 0) d25_70 (by decide) ?_
        exact pm_iret d25_71 rfl rfl h
      · refine pm_iconst (v := nI 1) d25_66 (by decide) ?_
        refine pm_goto (tgt := 71) d25_67 rfl ?_
        refine pm_iret d25_71 rfl (by first | rfl | exact nar_b _) ?_
        have e : rch f q R l = true := by
          rw [lg_cmp_lt, lN_lt63 bX bY] at c_63
          simp only [rch, Bool.and_eq_true, decide_eq_true_eq]
          omega
        rw [e] at h
        exact h
  · skip
    refine pm_ldc2 (v := lN 2) d25_0 ll_3_75 ?_
    refine pm_iload_n (i := 3) d25_3 rfl rfl ?_
    first | refine pm_i2lN d25_4 (by omega) ?_ | refine pm_i2l d25_4 rfl ?_
    first | refine pm_lmulN d25_5 ?_ | refine pm_lmul d25_5 ?_
    refine pm_iload_n (i := 3) d25_6 rfl rfl ?_
    first | refine pm_i2lN d25_7 (by omega) ?_ | refine pm_i2l d25_7 rfl ?_
    first | refine pm_lmulN d25_8 ?_ | refine pm_lmul d25_8 ?_
    refine pm_lstore (L2 := [(0, _), (1, _), (2, _), (3, _), (4, _)]) d25_9 (by decide) rfl ?_
    refine pm_lload d25_11 rfl ?_
    refine pm_iload_n (i := 1) d25_13 rfl rfl ?_
    first | refine pm_i2lN d25_14 (by omega) ?_ | refine pm_i2l d25_14 rfl ?_
    refine pm_iload_n (i := 1) d25_15 rfl rfl ?_
    first | refine pm_i2lN d25_16 (by omega) ?_ | refine pm_i2l d25_16 rfl ?_
    first | refine pm_lmulN d25_17 ?_ | refine pm_lmul d25_17 ?_
    refine pm_lsub d25_18 ?_
    refine pm_lstore (L2 := [(0, _), (1, _), (2, _), (3, _), (4, _), (6, _)]) d25_19 (by decide) rfl ?_
    refine pm_lload d25_21 rfl ?_
    refine pm_lconst (v := lN 0) d25_23 rfl ?_
    refine pm_lcmp d25_24 ?_
    refine pm_if_lt (tgt := 70) d25_25 rfl (fun c_25 => ?_) (fun c_25 => ?_)
    · have e : rch f q R l = false := by simp [rch, hle]
      rw [e] at h
      refine pm_iconst (v := nI 0) d25_70 (by decide) ?_
      exact pm_iret d25_71 rfl rfl h
    · refine absurd ?_ c_25
      rw [lg_cmp_lt]
      exact lN_neg (by omega) (by have := Nat.mul_le_mul hl9 hl9; omega)
/-- the greatest number below 2^j more than l that p reaches, bit by bit -/
def lenD (p : Nat → Bool) : Nat → Nat → Nat
  | 0, l => l
  | j + 1, l => lenD p j (if p (l + 2 ^ j) then l + 2 ^ j else l)
def len (f q R : Nat) : Nat := lenD (rch f q R) 12 0
theorem lenD_lt (p : Nat → Bool) : ∀ j l, lenD p j l < l + 2 ^ j := by
  intro j
  induction j with
  | zero => intro l; simp [lenD]
  | succ j ih =>
    intro l
    have e : 2 ^ (j + 1) = 2 ^ j + 2 ^ j := by rw [Nat.pow_succ]; omega
    have i1 := ih (l + 2 ^ j)
    have i2 := ih l
    have p0 : 0 < 2 ^ j := Nat.pow_pos (by omega)
    simp only [lenD]
    by_cases hp : p (l + 2 ^ j) = true
    · rw [if_pos hp]; omega
    · rw [if_neg hp]; omega
theorem sp_24 {f : Nat} {A : Mem} {Q : Int32 → Mem → Prop} {q R : Nat} (h1 : 1 ≤ f) (h6 : f ≤ 6) (hK : ∀ q, q < nk f → A 16 q = nI (qn f q) ∧ A 17 q = nI (qd f q)) (hq : q < nk f) (hR : R ≤ 2000) (h : Q (nI (len f q R)) A) : pm_P 24 0 [(0, .ref 11), (1, .int (nI q)), (2, .int (nI R))] [] A Q := by
  have hb := bd_n h1 h6
  have lp : ∀ j, j ≤ 12 → ∀ l, l + 2 ^ j ≤ 4096 → Q (nI (lenD (rch f q R) j l)) A → pm_P 24 7 [(0, .ref 11), (1, .int (nI q)), (2, .int (nI R)), (3, .int (nI l)), (4, .int (nI (2 ^ j / 2)))] [] A Q := by
    intro j
    induction j with
    | zero =>
      intro _ l hl9 h
      refine pm_iload d24_7 rfl ?_
      first | refine pm_if_leN (tgt := 39) d24_9 rfl (by omega) (fun c_9 => ?_) (fun c_9 => ?_) | refine pm_if_le (tgt := 39) d24_9 rfl (fun c_9 => ?_) (fun c_9 => ?_)
      · refine pm_iload_n (i := 3) d24_39 rfl rfl ?_
        refine pm_iret d24_40 rfl (by first | rfl | exact nar_b _) ?_
        exact h
      · omega
    | succ j ih =>
      intro hj l hl9 h
      have e : 2 ^ (j + 1) = 2 ^ j + 2 ^ j := by rw [Nat.pow_succ]; omega
      have e2 : 2 ^ (j + 1) / 2 = 2 ^ j := by omega
      have p0 : 0 < 2 ^ j := Nat.pow_pos (by omega)
      have p2 : 2 ^ j ≤ 2 ^ 11 := Nat.pow_le_pow_right (by omega) (by omega)
      have hsh := nI_half j (by omega)
      simp only [lenD] at h
      rw [e2] at hsh ⊢
      refine pm_iload d24_7 rfl ?_
      first | refine pm_if_leN (tgt := 39) d24_9 rfl (by omega) (fun c_9 => ?_) (fun c_9 => ?_) | refine pm_if_le (tgt := 39) d24_9 rfl (fun c_9 => ?_) (fun c_9 => ?_)
      · omega
      · refine pm_aload_n (i := 0) d24_12 rfl rfl ?_
        refine pm_iload_n (i := 3) d24_13 rfl rfl ?_
        refine pm_iload d24_14 rfl ?_
        first | refine pm_iaddN d24_16 ?_ | refine pm_iadd d24_16 ?_
        refine pm_iload_n (i := 1) d24_17 rfl rfl ?_
        refine pm_iload_n (i := 2) d24_18 rfl rfl ?_
        refine pm_callV (k2 := 25) (As := [_, _, _]) d24_19 lk_3_71 ok_25 rfl rfl rfl (Nat.le_of_ble_eq_true rfl) rfl rfl rfl rfl rfl ⟨Nat.le_of_ble_eq_true rfl, Nat.le_of_ble_eq_true rfl⟩ (Nat.le_of_ble_eq_true rfl) ?_
        refine sp_25 h1 h6 hK hq hR (by omega) ?_
        first | refine pm_if_eqB (tgt := 30) d24_22 rfl (fun c_22 => ?_) (fun c_22 => ?_) | refine pm_if_eqN (tgt := 30) d24_22 rfl (by omega) (fun c_22 => ?_) (fun c_22 => ?_) | refine pm_if_eq (tgt := 30) d24_22 rfl (fun c_22 => ?_) (fun c_22 => ?_)
        · refine pm_iload d24_30 rfl ?_
          refine pm_iconst (v := nI 1) d24_32 (by decide) ?_
          refine pm_ishr d24_33 ?_
          rw [hsh]
          refine pm_istore (L2 := [(0, _), (1, _), (2, _), (3, _), (4, _)]) d24_34 (by decide) rfl ?_
          refine pm_goto (tgt := 7) d24_36 rfl ?_
          first | (rw [if_pos c_22] at h; exact ih (by omega) _ (by omega) h) | (rw [if_neg (by simp [c_22])] at h; exact ih (by omega) _ (by omega) h)
        · refine pm_iload_n (i := 3) d24_25 rfl rfl ?_
          refine pm_iload d24_26 rfl ?_
          first | refine pm_iaddN d24_28 ?_ | refine pm_iadd d24_28 ?_
          refine pm_istore_n (i := 3) (L2 := [(0, _), (1, _), (2, _), (3, _), (4, _)]) d24_29 rfl (by decide) rfl ?_
          refine pm_iload d24_30 rfl ?_
          refine pm_iconst (v := nI 1) d24_32 (by decide) ?_
          refine pm_ishr d24_33 ?_
          rw [hsh]
          refine pm_istore (L2 := [(0, _), (1, _), (2, _), (3, _), (4, _)]) d24_34 (by decide) rfl ?_
          refine pm_goto (tgt := 7) d24_36 rfl ?_
          first | (rw [if_pos c_22] at h; exact ih (by omega) _ (by omega) h) | (rw [if_neg (by simp [c_22])] at h; exact ih (by omega) _ (by omega) h)
  refine pm_iconst (v := nI 0) d24_0 (by decide) ?_
  refine pm_istore_n (i := 3) (L2 := [(0, _), (1, _), (2, _), (3, _)]) d24_1 rfl (by decide) rfl ?_
  refine pm_sipush (v := nI 2048) d24_2 (by decide) ?_
  refine pm_istore (L2 := [(0, _), (1, _), (2, _), (3, _), (4, _)]) d24_5 (by decide) rfl ?_
  exact lp 12 (by omega) 0 (by omega) h
theorem len_lt (f q R : Nat) : len f q R < 4096 := by
  have := lenD_lt (rch f q R) 12 0
  unfold len
  omega