/-! HOW THE CLASS BUILDS ITS STRUTS -/
def gp (x y : Int32) : Int32 := if 0 ≤ x * y then iabs (iabs x - iabs y) else 2
def abN (m : Nat) : Nat := (6 - m) + (m - 6)
def gpN (m n : Nat) : Nat := cond ((Nat.blt m 6 && Nat.blt 6 n) || (Nat.blt 6 m && Nat.blt n 6)) 2 ((abN m - abN n) + (abN n - abN m))
theorem tk_gp : ∀ m : Nat, m < 13 → ∀ n : Nat, n < 13 → gp (Int32.ofInt ((m : Int) - 6)) (Int32.ofInt ((n : Int) - 6)) = nI (gpN m n) ∧ gpN m n ≤ 12 := by decide +kernel
theorem tk_13 : allF (fun f => allN (nh f) (fun a => Nat.blt (tn (tb_hx f) a) 13 && (Nat.blt (tn (tb_hy f) a) 13 && Nat.blt (tn (tb_hz f) a) 13))) = true := by decide +kernel
theorem bd_13 {f a : Nat} (h1 : 1 ≤ f) (h6 : f ≤ 6) (ha : a < nh f) : tn (tb_hx f) a < 13 ∧ tn (tb_hy f) a < 13 ∧ tn (tb_hz f) a < 13 := by
  have h2 := allN_of (allF_of tk_13 h1 h6) ha
  simp only [Bool.and_eq_true, Nat.blt_eq] at h2
  exact h2
def nbN (f a b : Nat) : Bool := Nat.ble (gpN (tn (tb_hx f) a) (tn (tb_hx f) b)) 1 && (Nat.ble (gpN (tn (tb_hy f) a) (tn (tb_hy f) b)) 1 && (Nat.ble (gpN (tn (tb_hz f) a) (tn (tb_hz f) b)) 1 && Nat.beq (gpN (tn (tb_hx f) a) (tn (tb_hx f) b) + gpN (tn (tb_hy f) a) (tn (tb_hy f) b) + gpN (tn (tb_hz f) a) (tn (tb_hz f) b)) 2))
theorem gp_N {f a b : Nat} (h1 : 1 ≤ f) (h6 : f ≤ 6) (ha : a < nh f) (hb : b < nh f) : (gp (hx f a) (hx f b) = nI (gpN (tn (tb_hx f) a) (tn (tb_hx f) b)) ∧ gpN (tn (tb_hx f) a) (tn (tb_hx f) b) ≤ 12) ∧ (gp (hy f a) (hy f b) = nI (gpN (tn (tb_hy f) a) (tn (tb_hy f) b)) ∧ gpN (tn (tb_hy f) a) (tn (tb_hy f) b) ≤ 12) ∧ (gp (hz f a) (hz f b) = nI (gpN (tn (tb_hz f) a) (tn (tb_hz f) b)) ∧ gpN (tn (tb_hz f) a) (tn (tb_hz f) b) ≤ 12) := by
  obtain ⟨a1, a2, a3⟩ := bd_13 h1 h6 ha
  obtain ⟨b1, b2, b3⟩ := bd_13 h1 h6 hb
  exact ⟨tk_gp _ a1 _ b1, tk_gp _ a2 _ b2, tk_gp _ a3 _ b3⟩
theorem sp_13 {A : Mem} {Q : Int32 → Mem → Prop} {x y : Int32} (h : Q (gp x y) A) : pm_P 13 0 [(0, .int x), (1, .int y)] [] A Q := by
  unfold gp at h
  refine pm_iload_n (i := 0) d13_0 rfl rfl ?_
  refine pm_iload_n (i := 1) d13_1 rfl rfl ?_
  refine pm_imul d13_2 ?_
  refine pm_if_ge (tgt := 10) d13_3 rfl (fun c_3 => ?_) (fun c_3 => ?_)
  · refine pm_iload_n (i := 0) d13_10 rfl rfl ?_
    refine pm_mabs d13_11 lm_2_28 (Nat.le_of_ble_eq_true rfl) (Nat.le_of_ble_eq_true rfl) ?_
    refine pm_iload_n (i := 1) d13_14 rfl rfl ?_
    refine pm_mabs d13_15 lm_2_28 (Nat.le_of_ble_eq_true rfl) (Nat.le_of_ble_eq_true rfl) ?_
    refine pm_isub d13_18 ?_
    refine pm_mabs d13_19 lm_2_28 (Nat.le_of_ble_eq_true rfl) (Nat.le_of_ble_eq_true rfl) ?_
    refine pm_iret d13_22 rfl (by first | rfl | exact nar_b _) ?_
    rw [if_pos c_3] at h
    exact h
  · refine pm_iconst (v := nI 2) d13_6 (by decide) ?_
    refine pm_goto (tgt := 22) d13_7 rfl ?_
    refine pm_iret d13_22 rfl (by first | rfl | exact nar_b _) ?_
    rw [if_neg c_3] at h
    exact h
theorem sp_12 {f a b : Nat} {A : Mem} {Q : Int32 → Mem → Prop} (h1 : 1 ≤ f) (h6 : f ≤ 6) (hB : BH f A) (ha : a < nh f) (hb9 : b < nh f) (h : Q (b2i (nbN f a b)) A) : pm_P 12 0 [(0, .ref 1), (1, .int (nI a)), (2, .int (nI b))] [] A Q := by
  have hb := bd_n h1 h6
  obtain ⟨a1, a2, a3⟩ := hB.2.2 a ha
  obtain ⟨b1, b2, b3⟩ := hB.2.2 b hb9
  obtain ⟨⟨x1, x2⟩, ⟨y1, y2⟩, ⟨z1, z2⟩⟩ := gp_N h1 h6 ha hb9
  unfold nbN at h
  generalize gpN (tn (tb_hx f) a) (tn (tb_hx f) b) = gx at *
  generalize gpN (tn (tb_hy f) a) (tn (tb_hy f) b) = gy at *
  generalize gpN (tn (tb_hz f) a) (tn (tb_hz f) b) = gz at *
  refine pm_aload_n (i := 0) d12_0 rfl rfl ?_
  refine pm_getR d12_1 lf_2_9 rfl rfl ?_
  refine pm_iload_n (i := 1) d12_4 rfl rfl ?_
  refine pm_ialdN d12_5 rfl (by decide) (by omega) ?_
  rw [a1]
  refine pm_aload_n (i := 0) d12_6 rfl rfl ?_
  refine pm_getR d12_7 lf_2_9 rfl rfl ?_
  refine pm_iload_n (i := 2) d12_10 rfl rfl ?_
  refine pm_ialdN d12_11 rfl (by decide) (by omega) ?_
  rw [b1]
  refine pm_callS (k2 := 13) (As := [_, _]) d12_12 lk_2_38 ok_13 rfl rfl rfl (Nat.le_of_ble_eq_true rfl) rfl rfl ⟨Nat.le_of_ble_eq_true rfl, Nat.le_of_ble_eq_true rfl⟩ (Nat.le_of_ble_eq_true rfl) ?_
  refine sp_13 ?_
  rw [x1]
  refine pm_istore_n (i := 3) (L2 := [(0, _), (1, _), (2, _), (3, _)]) d12_15 rfl (by decide) rfl ?_
  refine pm_aload_n (i := 0) d12_16 rfl rfl ?_
  refine pm_getR d12_17 lf_2_15 rfl rfl ?_
  refine pm_iload_n (i := 1) d12_20 rfl rfl ?_
  refine pm_ialdN d12_21 rfl (by decide) (by omega) ?_
  rw [a2]
  refine pm_aload_n (i := 0) d12_22 rfl rfl ?_
  refine pm_getR d12_23 lf_2_15 rfl rfl ?_
  refine pm_iload_n (i := 2) d12_26 rfl rfl ?_
  refine pm_ialdN d12_27 rfl (by decide) (by omega) ?_
  rw [b2]
  refine pm_callS (k2 := 13) (As := [_, _]) d12_28 lk_2_38 ok_13 rfl rfl rfl (Nat.le_of_ble_eq_true rfl) rfl rfl ⟨Nat.le_of_ble_eq_true rfl, Nat.le_of_ble_eq_true rfl⟩ (Nat.le_of_ble_eq_true rfl) ?_
  refine sp_13 ?_
  rw [y1]
  refine pm_istore (L2 := [(0, _), (1, _), (2, _), (3, _), (4, _)]) d12_31 (by decide) rfl ?_
  refine pm_aload_n (i := 0) d12_33 rfl rfl ?_
  refine pm_getR d12_34 lf_2_18 rfl rfl ?_
  refine pm_iload_n (i := 1) d12_37 rfl rfl ?_
  refine pm_ialdN d12_38 rfl (by decide) (by omega) ?_
  rw [a3]
  refine pm_aload_n (i := 0) d12_39 rfl rfl ?_
  refine pm_getR d12_40 lf_2_18 rfl rfl ?_
  refine pm_iload_n (i := 2) d12_43 rfl rfl ?_
  refine pm_ialdN d12_44 rfl (by decide) (by omega) ?_
  rw [b3]
  refine pm_callS (k2 := 13) (As := [_, _]) d12_45 lk_2_38 ok_13 rfl rfl rfl (Nat.le_of_ble_eq_true rfl) rfl rfl ⟨Nat.le_of_ble_eq_true rfl, Nat.le_of_ble_eq_true rfl⟩ (Nat.le_of_ble_eq_true rfl) ?_
  refine sp_13 ?_
  rw [z1]
  refine pm_istore (L2 := [(0, _), (1, _), (2, _), (3, _), (4, _), (5, _)]) d12_48 (by decide) rfl ?_
  refine pm_iload_n (i := 3) d12_50 rfl rfl ?_
  refine pm_iconst (v := nI 1) d12_51 (by decide) ?_
  first | refine pm_icmp_gtN (tgt := 82) d12_52 rfl (by omega) (by omega) (fun c_52 => ?_) (fun c_52 => ?_) | refine pm_icmp_gt (tgt := 82) d12_52 rfl (fun c_52 => ?_) (fun c_52 => ?_)
  · refine pm_iconst (v := nI 0) d12_82 (by decide) ?_
    refine pm_iret d12_83 rfl (by first | rfl | exact nar_b _) ?_
    rw [show Nat.ble gx 1 = false from (by rw [← Bool.not_eq_true, Nat.ble_eq]; omega), Bool.false_and] at h
    exact h
  · refine pm_iload d12_55 rfl ?_
    refine pm_iconst (v := nI 1) d12_57 (by decide) ?_
    first | refine pm_icmp_gtN (tgt := 82) d12_58 rfl (by omega) (by omega) (fun c_58 => ?_) (fun c_58 => ?_) | refine pm_icmp_gt (tgt := 82) d12_58 rfl (fun c_58 => ?_) (fun c_58 => ?_)
    · refine pm_iconst (v := nI 0) d12_82 (by decide) ?_
      refine pm_iret d12_83 rfl (by first | rfl | exact nar_b _) ?_
      rw [show Nat.ble gy 1 = false from (by rw [← Bool.not_eq_true, Nat.ble_eq]; omega), Bool.false_and, Bool.and_false] at h
      exact h
    · refine pm_iload d12_61 rfl ?_
      refine pm_iconst (v := nI 1) d12_63 (by decide) ?_
      first | refine pm_icmp_gtN (tgt := 82) d12_64 rfl (by omega) (by omega) (fun c_64 => ?_) (fun c_64 => ?_) | refine pm_icmp_gt (tgt := 82) d12_64 rfl (fun c_64 => ?_) (fun c_64 => ?_)
      · refine pm_iconst (v := nI 0) d12_82 (by decide) ?_
        refine pm_iret d12_83 rfl (by first | rfl | exact nar_b _) ?_
        rw [show Nat.ble gz 1 = false from (by rw [← Bool.not_eq_true, Nat.ble_eq]; omega), Bool.false_and, Bool.and_false, Bool.and_false] at h
        exact h
      · refine pm_iload_n (i := 3) d12_67 rfl rfl ?_
        refine pm_iload d12_68 rfl ?_
        first | refine pm_iaddN d12_70 ?_ | refine pm_iadd d12_70 ?_
        refine pm_iload d12_71 rfl ?_
        first | refine pm_iaddN d12_73 ?_ | refine pm_iadd d12_73 ?_
        refine pm_iconst (v := nI 2) d12_74 (by decide) ?_
        first | refine pm_icmp_neN (tgt := 82) d12_75 rfl (by omega) (by omega) (fun c_75 => ?_) (fun c_75 => ?_) | refine pm_icmp_ne (tgt := 82) d12_75 rfl (fun c_75 => ?_) (fun c_75 => ?_)
        · refine pm_iconst (v := nI 0) d12_82 (by decide) ?_
          refine pm_iret d12_83 rfl (by first | rfl | exact nar_b _) ?_
          rw [show Nat.beq (gx + gy + gz) 2 = false by rw [← Bool.not_eq_true, Nat.beq_eq]; omega, Bool.and_false, Bool.and_false, Bool.and_false] at h
          exact h
        · refine pm_iconst (v := nI 1) d12_78 (by decide) ?_
          refine pm_goto (tgt := 83) d12_79 rfl ?_
          refine pm_iret d12_83 rfl (by first | rfl | exact nar_b _) ?_
          rw [show Nat.ble gx 1 = true by rw [Nat.ble_eq]; omega, show Nat.ble gy 1 = true by rw [Nat.ble_eq]; omega, show Nat.ble gz 1 = true by rw [Nat.ble_eq]; omega, show Nat.beq (gx + gy + gz) 2 = true by rw [Nat.beq_eq]; omega] at h
          exact h
/-- how many struts lie ahead of the pair a, b -/
def kat (f a b : Nat) : Nat := fs f a + cnt (fun j => Nat.blt (hi f (fs f a + j)) b) (fs f (a + 1) - fs f a)
theorem tk_st : allF (fun f => Nat.beq (fs f 0) 0 && (Nat.beq (fs f (nh f)) (ns f) && allN (nh f) (fun a => Nat.beq (kat f a (a + 1)) (fs f a) && (Nat.beq (kat f a (nh f)) (fs f (a + 1)) && allN (nh f) (fun b => Nat.ble b a || cond (nbN f a b) (Nat.beq (lo f (kat f a b)) a && (Nat.beq (hi f (kat f a b)) b && (Nat.blt (kat f a b) (ns f) && Nat.beq (kat f a (b + 1)) (kat f a b + 1)))) (Nat.beq (kat f a (b + 1)) (kat f a b))))))) = true := by decide +kernel
theorem bd_st {f a : Nat} (h1 : 1 ≤ f) (h6 : f ≤ 6) : fs f 0 = 0 ∧ fs f (nh f) = ns f ∧ (a < nh f → kat f a (a + 1) = fs f a ∧ kat f a (nh f) = fs f (a + 1) ∧ ∀ b, b < nh f → a < b → (nbN f a b = true → lo f (kat f a b) = a ∧ hi f (kat f a b) = b ∧ kat f a b < ns f ∧ kat f a (b + 1) = kat f a b + 1) ∧ (nbN f a b = false → kat f a (b + 1) = kat f a b)) := by
  have h0 := allF_of tk_st h1 h6
  simp only [Bool.and_eq_true, Nat.beq_eq] at h0
  refine ⟨h0.1, h0.2.1, fun ha => ?_⟩
  have h2 := allN_of h0.2.2 ha
  simp only [Bool.and_eq_true, Nat.beq_eq] at h2
  refine ⟨h2.1, h2.2.1, fun b hb hab => ?_⟩
  have h3 := allN_of h2.2.2 hb
  simp only [Bool.or_eq_true, Nat.ble_eq] at h3
  rcases h3 with h3 | h3
  · omega
  · cases e : nbN f a b with
    | true =>
      rw [e] at h3
      simp only [cond, Bool.and_eq_true, Nat.beq_eq, Nat.blt_eq] at h3
      exact ⟨fun _ => h3, fun q => by cases q⟩
    | false =>
      rw [e] at h3
      simp only [cond, Nat.beq_eq] at h3
      exact ⟨fun q => (by cases q), fun _ => h3⟩
/-- how many of the links of hub a have struts below k -/
def dgt (f a k : Nat) : Nat := cnt (fun j => Nat.blt (lk f (a * 6 + j)) k) (dg f a)
theorem tk_dt : allF (fun f => allN (ns f) (fun k => Nat.beq (dgt f (lo f k) k) (jl f k) && (Nat.beq (dgt f (lo f k) (k + 1)) (jl f k + 1) && (Nat.beq (dgt f (hi f k) k) (jh f k) && Nat.beq (dgt f (hi f k) (k + 1)) (jh f k + 1))))) = true := by decide +kernel
theorem bd_dt {f k : Nat} (h1 : 1 ≤ f) (h6 : f ≤ 6) (hk : k < ns f) : dgt f (lo f k) k = jl f k ∧ dgt f (lo f k) (k + 1) = jl f k + 1 ∧ dgt f (hi f k) k = jh f k ∧ dgt f (hi f k) (k + 1) = jh f k + 1 := by
  have h2 := allN_of (allF_of tk_dt h1 h6) hk
  simp only [Bool.and_eq_true, Nat.beq_eq] at h2
  exact h2
theorem bd_e1 {f k : Nat} (h1 : 1 ≤ f) (h6 : f ≤ 6) (hk : k < ns f) : jl f k < dg f (lo f k) ∧ lh f (lo f k * 6 + jl f k) = hi f k ∧ lk f (lo f k * 6 + jl f k) = k ∧ jh f k < dg f (hi f k) ∧ lh f (hi f k * 6 + jh f k) = lo f k ∧ lk f (hi f k * 6 + jh f k) = k := by
  have h2 := allN_of (allF_of tk_e1 h1 h6) hk
  simp only [Bool.and_eq_true, Nat.blt_eq, Nat.beq_eq] at h2
  exact h2
theorem bd_e2 {f a j : Nat} (h1 : 1 ≤ f) (h6 : f ≤ 6) (ha : a < nh f) (hj : j < dg f a) : (lo f (lk f (a * 6 + j)) = a ∧ hi f (lk f (a * 6 + j)) = lh f (a * 6 + j)) ∨ (hi f (lk f (a * 6 + j)) = a ∧ lo f (lk f (a * 6 + j)) = lh f (a * 6 + j)) := by
  have h2 := allN_of (allN_of (allF_of tk_e2 h1 h6) ha) hj
  simp only [Bool.and_eq_true, Bool.or_eq_true, Nat.beq_eq] at h2
  exact h2
theorem cnt_all {p : Nat → Bool} {n : Nat} (h : ∀ i, i < n → p i = true) : cnt p n = n := by
  induction n with
  | zero => rfl
  | succ n ih => rw [cnt_t (h n (by omega)), ih (fun i hi9 => h i (by omega))]
theorem cnt_non {p : Nat → Bool} {n : Nat} (h : ∀ i, i < n → p i = false) : cnt p n = 0 := by
  induction n with
  | zero => rfl
  | succ n ih => rw [cnt_f (h n (by omega)), ih (fun i hi9 => h i (by omega))]
theorem dgt_other {f c k : Nat} (h1 : 1 ≤ f) (h6 : f ≤ 6) (hc : c < nh f) (hl9 : ¬ c = lo f k) (hh : ¬ c = hi f k) : dgt f c (k + 1) = dgt f c k := by
  unfold dgt
  refine cnt_congr (fun j hj => ?_)
  have hne : ¬ lk f (c * 6 + j) = k := fun q => by
    rcases bd_e2 h1 h6 hc hj with e | e
    · rw [q] at e; exact hl9 e.1.symm
    · rw [q] at e; exact hh e.1.symm
  rw [Bool.eq_iff_iff, Nat.blt_eq, Nat.blt_eq]
  omega
theorem dgt_le (f a k : Nat) : dgt f a k ≤ dg f a := cnt_le _ _
/-- the first k struts stand -/
def SB (f k : Nat) (A : Mem) : Prop := A 5 5 = nI k ∧ (∀ i, i < k → A 6 i = nI (lo f i) ∧ A 7 i = nI (hi f i)) ∧ (∀ a, a < nh f → A 8 a = nI (dgt f a k)) ∧ ∀ a j, a < nh f → j < dgt f a k → A 9 (a * 6 + j) = nI (lh f (a * 6 + j)) ∧ A 10 (a * 6 + j) = nI (lk f (a * 6 + j))
theorem sp_47 {A : Mem} {Q : Int32 → Mem → Prop} {a b t k : Nat} (ha : a < 146) (ht : t < 6) (h8 : A 8 a = nI t) (h5 : A 5 5 = nI k) (h : Q 0 (mset (mset (mset A 9 (a * 6 + t) (nI b)) 10 (a * 6 + t) (nI k)) 8 a (nI (t + 1)))) : pm_P 47 0 [(0, .ref 5), (1, .int (nI a)), (2, .int (nI b))] [] A Q := by
  refine pm_iload_n (i := 1) d47_0 rfl rfl ?_
  refine pm_bipush (v := nI 6) d47_1 (by decide) ?_
  first | refine pm_imulN d47_3 ?_ | refine pm_imul d47_3 ?_
  refine pm_aload_n (i := 0) d47_4 rfl rfl ?_
  refine pm_getR d47_5 lf_7_18 rfl rfl ?_
  refine pm_iload_n (i := 1) d47_8 rfl rfl ?_
  refine pm_ialdN d47_9 rfl (by decide) (by omega) ?_
  rw [h8]
  first | refine pm_iaddN d47_10 ?_ | refine pm_iadd d47_10 ?_
  refine pm_istore_n (i := 3) (L2 := [(0, _), (1, _), (2, _), (3, _)]) d47_11 rfl (by decide) rfl ?_
  refine pm_aload_n (i := 0) d47_12 rfl rfl ?_
  refine pm_getR d47_13 lf_7_21 rfl rfl ?_
  refine pm_iload_n (i := 3) d47_16 rfl rfl ?_
  refine pm_iload_n (i := 2) d47_17 rfl rfl ?_
  refine pm_iastN d47_18 rfl (by decide) (by omega) ?_
  refine pm_aload_n (i := 0) d47_19 rfl rfl ?_
  refine pm_getR d47_20 lf_7_24 rfl rfl ?_
  refine pm_iload_n (i := 3) d47_23 rfl rfl ?_
  refine pm_aload_n (i := 0) d47_24 rfl rfl ?_
  refine pm_getE (v := nI k) d47_25 lf_7_27 rfl rfl (by simp [mset_get, h5]) ?_
  refine pm_iastN d47_28 rfl (by decide) (by omega) ?_
  refine pm_aload_n (i := 0) d47_29 rfl rfl ?_
  refine pm_getR d47_30 lf_7_18 rfl rfl ?_
  refine pm_iload_n (i := 1) d47_33 rfl rfl ?_
  refine pm_dup2 d47_34 rfl rfl ?_
  refine pm_ialdN d47_35 rfl (by decide) (by omega) ?_
  rw [mset_other (by decide), mset_other (by decide), h8]
  refine pm_iconst (v := nI 1) d47_36 (by decide) ?_
  first | refine pm_iaddN d47_37 ?_ | refine pm_iadd d47_37 ?_
  refine pm_iastN d47_38 rfl (by decide) (by omega) ?_
  refine pm_vret d47_39 rfl ?_
  exact h
theorem SB_add {f k : Nat} {A : Mem} (h1 : 1 ≤ f) (h6 : f ≤ 6) (hk : k < ns f) (h : SB f k A) : SB f (k + 1) (mset (mset (mset (mset (mset (mset (mset (mset (mset A 6 k (nI (lo f k))) 7 k (nI (hi f k))) 9 (lo f k * 6 + jl f k) (nI (hi f k))) 10 (lo f k * 6 + jl f k) (nI k)) 8 (lo f k) (nI (jl f k + 1))) 9 (hi f k * 6 + jh f k) (nI (lo f k))) 10 (hi f k * 6 + jh f k) (nI k)) 8 (hi f k) (nI (jh f k + 1))) 5 5 (nI (k + 1))) := by
  obtain ⟨s1, s2, s3, s4⟩ := h
  obtain ⟨t1, t2, t3, t4⟩ := bd_dt h1 h6 hk
  obtain ⟨u1, u2, u3, u4, u5, u6⟩ := bd_e1 h1 h6 hk
  obtain ⟨v1, v2, -, -⟩ := bd_s h1 h6 hk
  have w1 := (bd_a h1 h6 (a := lo f k) (by omega)).1
  have w2 := (bd_a h1 h6 (a := hi f k) (by omega)).1
  refine ⟨by simp [mset_get], fun i hi9 => ?_, fun c hc => ?_, fun c j hc hj => ?_⟩
  · by_cases e : i = k
    · rw [e]; simp [mset_get]
    · have := s2 i (by omega)
      simp [mset_get, e, this]
  · by_cases e2 : c = hi f k
    · rw [e2, t4]; simp [mset_get]
    · by_cases e1 : c = lo f k
      · rw [e1, t2]
        have : ¬ lo f k = hi f k := by omega
        simp [mset_get, this]
      · rw [dgt_other h1 h6 hc e1 e2, ← s3 c hc]
        simp [mset_get, e1, e2]
  · by_cases e2 : c = hi f k
    · subst e2
      rw [t4] at hj
      by_cases ej : j = jh f k
      · rw [ej, u5, u6]; simp [mset_get]
      · have n1 : ¬ hi f k * 6 + j = hi f k * 6 + jh f k := by omega
        have n2 : ¬ hi f k * 6 + j = lo f k * 6 + jl f k := by omega
        have := s4 (hi f k) j hc (by omega)
        simp only [mset_get]
        simp [n1, n2, this, ej]
    · by_cases e1 : c = lo f k
      · subst e1
        rw [t2] at hj
        have n1 : ¬ lo f k * 6 + j = hi f k * 6 + jh f k := by omega
        by_cases ej : j = jl f k
        · rw [ej] at n1 ⊢
          rw [u2, u3]
          simp only [mset_get]
          simp [n1]
        · have n2 : ¬ lo f k * 6 + j = lo f k * 6 + jl f k := by omega
          have := s4 (lo f k) j hc (by omega)
          simp only [mset_get]
          simp [n1, n2, this, ej]
      · rw [dgt_other h1 h6 hc e1 e2] at hj
        have hj6 := dgt_le f c k
        have hc6 := (bd_a h1 h6 hc).1
        have n1 : ¬ c * 6 + j = hi f k * 6 + jh f k := by omega
        have n2 : ¬ c * 6 + j = lo f k * 6 + jl f k := by omega
        have := s4 c j hc hj
        simp only [mset_get]
        simp [n1, n2, this]
theorem sp_46 {f k : Nat} {A : Mem} {Q : Int32 → Mem → Prop} (h1 : 1 ≤ f) (h6 : f ≤ 6) (hk : k < ns f) (hS : SB f k A) (h : ∀ A2 : Mem, (∀ c, c < 5 ∨ 10 < c → A2 c = A c) → SB f (k + 1) A2 → Q 0 A2) : pm_P 46 0 [(0, .ref 5), (1, .int (nI (lo f k))), (2, .int (nI (hi f k)))] [] A Q := by
  have hb := bd_n h1 h6
  obtain ⟨t1, t2, t3, t4⟩ := bd_dt h1 h6 hk
  obtain ⟨u1, u2, u3, u4, u5, u6⟩ := bd_e1 h1 h6 hk
  obtain ⟨v1, v2, -, -⟩ := bd_s h1 h6 hk
  have w1 := (bd_a h1 h6 (a := lo f k) (by omega)).1
  have w2 := (bd_a h1 h6 (a := hi f k) (by omega)).1
  have q1 := hS.2.2.1 (lo f k) (by omega)
  have q2 := hS.2.2.1 (hi f k) (by omega)
  rw [t1] at q1
  rw [t3] at q2
  have hS2 := SB_add h1 h6 hk hS
  have q3 := hS.1
  have nlh : ¬ hi f k = lo f k := by omega
  refine pm_aload_n (i := 0) d46_0 rfl rfl ?_
  refine pm_getE (v := nI k) d46_1 lf_7_27 rfl rfl (by simp [mset_get, q3]) ?_
  refine pm_sipush (v := nI 432) d46_4 (by decide) ?_
  first | refine pm_icmp_geN (tgt := 32) d46_7 rfl (by omega) (by omega) (fun c_7 => ?_) (fun c_7 => ?_) | refine pm_icmp_ge (tgt := 32) d46_7 rfl (fun c_7 => ?_) (fun c_7 => ?_)
  · omega
  · refine pm_aload_n (i := 0) d46_10 rfl rfl ?_
    refine pm_getR d46_11 lf_7_18 rfl rfl ?_
    refine pm_iload_n (i := 1) d46_14 rfl rfl ?_
    refine pm_ialdN d46_15 rfl (by decide) (by omega) ?_
    rw [q1]
    refine pm_bipush (v := nI 6) d46_16 (by decide) ?_
    first | refine pm_icmp_geN (tgt := 32) d46_18 rfl (by omega) (by omega) (fun c_18 => ?_) (fun c_18 => ?_) | refine pm_icmp_ge (tgt := 32) d46_18 rfl (fun c_18 => ?_) (fun c_18 => ?_)
    · omega
    · refine pm_aload_n (i := 0) d46_21 rfl rfl ?_
      refine pm_getR d46_22 lf_7_18 rfl rfl ?_
      refine pm_iload_n (i := 2) d46_25 rfl rfl ?_
      refine pm_ialdN d46_26 rfl (by decide) (by omega) ?_
      rw [q2]
      refine pm_bipush (v := nI 6) d46_27 (by decide) ?_
      first | refine pm_icmp_ltN (tgt := 33) d46_29 rfl (by omega) (by omega) (fun c_29 => ?_) (fun c_29 => ?_) | refine pm_icmp_lt (tgt := 33) d46_29 rfl (fun c_29 => ?_) (fun c_29 => ?_)
      · refine pm_aload_n (i := 0) d46_33 rfl rfl ?_
        refine pm_getR d46_34 lf_7_9 rfl rfl ?_
        refine pm_aload_n (i := 0) d46_37 rfl rfl ?_
        refine pm_getE (v := nI k) d46_38 lf_7_27 rfl rfl (by simp [mset_get, q3]) ?_
        refine pm_iload_n (i := 1) d46_41 rfl rfl ?_
        refine pm_iastN d46_42 rfl (by decide) (by omega) ?_
        refine pm_aload_n (i := 0) d46_43 rfl rfl ?_
        refine pm_getR d46_44 lf_7_15 rfl rfl ?_
        refine pm_aload_n (i := 0) d46_47 rfl rfl ?_
        refine pm_getE (v := nI k) d46_48 lf_7_27 rfl rfl (by simp [mset_get, q3]) ?_
        refine pm_iload_n (i := 2) d46_51 rfl rfl ?_
        refine pm_iastN d46_52 rfl (by decide) (by omega) ?_
        refine pm_aload_n (i := 0) d46_53 rfl rfl ?_
        refine pm_iload_n (i := 1) d46_54 rfl rfl ?_
        refine pm_iload_n (i := 2) d46_55 rfl rfl ?_
        refine pm_callVv (k2 := 47) (As := [_, _]) d46_56 lk_7_48 ok_47 rfl rfl rfl (Nat.le_of_ble_eq_true rfl) rfl rfl rfl rfl rfl ⟨Nat.le_of_ble_eq_true rfl, Nat.le_of_ble_eq_true rfl⟩ (Nat.le_of_ble_eq_true rfl) ?_
        refine sp_47 (k := k) (t := jl f k) (by omega) (by omega) (by simp [mset_get, q1]) (by simp [mset_get, q3]) ?_
        refine pm_aload_n (i := 0) d46_59 rfl rfl ?_
        refine pm_iload_n (i := 2) d46_60 rfl rfl ?_
        refine pm_iload_n (i := 1) d46_61 rfl rfl ?_
        refine pm_callVv (k2 := 47) (As := [_, _]) d46_62 lk_7_48 ok_47 rfl rfl rfl (Nat.le_of_ble_eq_true rfl) rfl rfl rfl rfl rfl ⟨Nat.le_of_ble_eq_true rfl, Nat.le_of_ble_eq_true rfl⟩ (Nat.le_of_ble_eq_true rfl) ?_
        refine sp_47 (k := k) (t := jh f k) (by omega) (by omega) (by simp [mset_get, q2, nlh]) (by simp [mset_get, q3]) ?_
        refine pm_aload_n (i := 0) d46_65 rfl rfl ?_
        refine pm_dup d46_66 rfl ?_
        refine pm_getE (v := nI k) d46_67 lf_7_27 rfl rfl (by simp [mset_get, q3]) ?_
        refine pm_iconst (v := nI 1) d46_70 (by decide) ?_
        first | refine pm_iaddN d46_71 ?_ | refine pm_iadd d46_71 ?_
        refine pm_putI d46_72 lp_7_27 rfl rfl ?_
        refine pm_vret d46_75 rfl ?_
        refine h _ (fun c hc => ?_) hS2
        rw [mset_other (by omega), mset_other (by omega), mset_other (by omega), mset_other (by omega), mset_other (by omega), mset_other (by omega), mset_other (by omega), mset_other (by omega), mset_other (by omega)]
      · omega
theorem SB_end {f : Nat} {A : Mem} (h1 : 1 ≤ f) (h6 : f ≤ 6) (h : SB f (ns f) A) : BS f A := by
  have e : ∀ a, a < nh f → dgt f a (ns f) = dg f a := fun a ha => cnt_all (fun j hj => by rw [Nat.blt_eq]; exact ((bd_a h1 h6 ha).2 j hj).2)
  exact ⟨h.1, h.2.1, fun a ha => by rw [← e a ha]; exact h.2.2.1 a ha, fun a j ha hj => h.2.2.2 a j ha (by rw [e a ha]; exact hj)⟩
theorem BH_keep {f : Nat} {A A2 : Mem} (h : BH f A) (hk : ∀ c, 1 ≤ c → c ≤ 4 → A2 c = A c) : BH f A2 := by
  unfold BH at *
  rw [hk 1 (by omega) (by omega), hk 2 (by omega) (by omega), hk 3 (by omega) (by omega), hk 4 (by omega) (by omega)]
  exact h
theorem sp_45 {f : Nat} {A : Mem} {Q : Int32 → Mem → Prop} (h1 : 1 ≤ f) (h6 : f ≤ 6) (hB : BH f A) (h : ∀ A2 : Mem, (∀ c, c < 5 ∨ 10 < c → A2 c = A c) → BS f A2 → Q 0 A2) : pm_P 45 0 [(0, .ref 5), (1, .ref 1)] [] A Q := by
  have hb := bd_n h1 h6
  have outer : ∀ a, a ≤ nh f → ∀ A1 : Mem, (∀ c, c < 5 ∨ 10 < c → A1 c = A c) → SB f (fs f a) A1 → pm_P 45 15 [(0, .ref 5), (1, .ref 1), (2, .int (nI a))] [] A1 Q := by
    refine up_ind (fun a ha ih A1 g1 g2 => ?_)
    have hB1 : BH f A1 := BH_keep hB (fun c _ _ => g1 c (by omega))
    by_cases hlt : a < nh f
    · obtain ⟨-, -, hst⟩ := bd_st (a := a) h1 h6
      obtain ⟨w1, w2, w3⟩ := hst hlt
      have inner : ∀ b, b ≤ nh f → a < b → ∀ A1 : Mem, (∀ c, c < 5 ∨ 10 < c → A1 c = A c) → SB f (kat f a b) A1 → pm_P 45 27 [(0, .ref 5), (1, .ref 1), (2, .int (nI a)), (3, .int (nI b))] [] A1 Q := by
        refine up_ind (fun b hb9 ih2 hab A1 g1 g2 => ?_)
        have hB1 : BH f A1 := BH_keep hB (fun c _ _ => g1 c (by omega))
        refine pm_iload_n (i := 3) d45_27 rfl rfl ?_
        refine pm_aload_n (i := 1) d45_28 rfl rfl ?_
        refine pm_getE d45_29 lf_7_37 rfl rfl (hB1.2.1) ?_
        first | refine pm_icmp_geN (tgt := 56) d45_32 rfl (by omega) (by omega) (fun c_32 => ?_) (fun c_32 => ?_) | refine pm_icmp_ge (tgt := 56) d45_32 rfl (fun c_32 => ?_) (fun c_32 => ?_)
        · first | refine pm_iincN 1 (L2 := [(0, _), (1, _), (2, _), (3, _)]) d45_56 rfl (by decide) rfl ?_ | refine pm_iinc (L2 := [(0, _), (1, _), (2, _), (3, _)]) d45_56 rfl rfl (by decide) rfl ?_
          refine pm_goto (tgt := 15) d45_59 rfl ?_
          refine pm_pick [0, 1, 2] (L2 := [(0, _), (1, _), (2, _)]) rfl ?_
          refine ih hlt A1 g1 ?_
          rw [← w2, ← show b = nh f by omega]
          exact g2
        · refine pm_aload_n (i := 1) d45_35 rfl rfl ?_
          refine pm_iload_n (i := 2) d45_36 rfl rfl ?_
          refine pm_iload_n (i := 3) d45_37 rfl rfl ?_
          refine pm_callV (k2 := 12) (As := [_, _]) d45_38 lk_7_40 ok_12 rfl rfl rfl (Nat.le_of_ble_eq_true rfl) rfl rfl rfl rfl rfl ⟨Nat.le_of_ble_eq_true rfl, Nat.le_of_ble_eq_true rfl⟩ (Nat.le_of_ble_eq_true rfl) ?_
          refine sp_12 h1 h6 hB1 hlt c_32 ?_
          first | refine pm_if_eqB (tgt := 50) d45_41 rfl (fun c_41 => ?_) (fun c_41 => ?_) | refine pm_if_eqN (tgt := 50) d45_41 rfl (by omega) (fun c_41 => ?_) (fun c_41 => ?_) | refine pm_if_eq (tgt := 50) d45_41 rfl (fun c_41 => ?_) (fun c_41 => ?_)
          · first | refine pm_iincN 1 (L2 := [(0, _), (1, _), (2, _), (3, _)]) d45_50 rfl (by decide) rfl ?_ | refine pm_iinc (L2 := [(0, _), (1, _), (2, _), (3, _)]) d45_50 rfl rfl (by decide) rfl ?_
            refine pm_goto (tgt := 27) d45_53 rfl ?_
            refine ih2 c_32 (by omega) A1 g1 ?_
            rw [(w3 b c_32 hab).2 c_41]
            exact g2
          · obtain ⟨y1, y2, y3, y4⟩ := (w3 b c_32 hab).1 c_41
            have hgo := @sp_46 f (kat f a b) A1 
            refine pm_aload_n (i := 0) d45_44 rfl rfl ?_
            refine pm_iload_n (i := 2) d45_45 rfl rfl ?_
            refine pm_iload_n (i := 3) d45_46 rfl rfl ?_
            refine pm_callVv (k2 := 46) (As := [_, _]) d45_47 lk_7_44 ok_46 rfl rfl rfl (Nat.le_of_ble_eq_true rfl) rfl rfl rfl rfl rfl ⟨Nat.le_of_ble_eq_true rfl, Nat.le_of_ble_eq_true rfl⟩ (Nat.le_of_ble_eq_true rfl) ?_
            rw [y1, y2] at hgo
            refine hgo h1 h6 y3 g2 (fun A2 f1 f2 => ?_)
            first | refine pm_iincN 1 (L2 := [(0, _), (1, _), (2, _), (3, _)]) d45_50 rfl (by decide) rfl ?_ | refine pm_iinc (L2 := [(0, _), (1, _), (2, _), (3, _)]) d45_50 rfl rfl (by decide) rfl ?_
            refine pm_goto (tgt := 27) d45_53 rfl ?_
            refine ih2 c_32 (by omega) A2 (fun c hc => by rw [f1 c hc]; exact g1 c hc) ?_
            rw [y4]
            exact f2
      refine pm_iload_n (i := 2) d45_15 rfl rfl ?_
      refine pm_aload_n (i := 1) d45_16 rfl rfl ?_
      refine pm_getE d45_17 lf_7_37 rfl rfl (hB1.2.1) ?_
      first | refine pm_icmp_geN (tgt := 62) d45_20 rfl (by omega) (by omega) (fun c_20 => ?_) (fun c_20 => ?_) | refine pm_icmp_ge (tgt := 62) d45_20 rfl (fun c_20 => ?_) (fun c_20 => ?_)
      · omega
      · refine pm_iload_n (i := 2) d45_23 rfl rfl ?_
        refine pm_iconst (v := nI 1) d45_24 (by decide) ?_
        first | refine pm_iaddN d45_25 ?_ | refine pm_iadd d45_25 ?_
        refine pm_istore_n (i := 3) (L2 := [(0, _), (1, _), (2, _), (3, _)]) d45_26 rfl (by decide) rfl ?_
        exact inner (a + 1) (by omega) (by omega) A1 g1 (by rw [w1]; exact g2)
    · have ea : a = nh f := by omega
      refine pm_iload_n (i := 2) d45_15 rfl rfl ?_
      refine pm_aload_n (i := 1) d45_16 rfl rfl ?_
      refine pm_getE d45_17 lf_7_37 rfl rfl (hB1.2.1) ?_
      first | refine pm_icmp_geN (tgt := 62) d45_20 rfl (by omega) (by omega) (fun c_20 => ?_) (fun c_20 => ?_) | refine pm_icmp_ge (tgt := 62) d45_20 rfl (fun c_20 => ?_) (fun c_20 => ?_)
      · refine pm_vret d45_62 rfl ?_
        refine h A1 g1 (SB_end h1 h6 ?_)
        rw [← (bd_st (a := 0) h1 h6).2.1, ← ea]
        exact g2
      · omega
  refine pm_aload_n (i := 0) d45_0 rfl rfl ?_
  refine pm_iconst (v := nI 0) d45_1 (by decide) ?_
  refine pm_putI d45_2 lp_7_27 rfl rfl ?_
  refine pm_aload_n (i := 0) d45_5 rfl rfl ?_
  refine pm_getR d45_6 lf_7_18 rfl rfl ?_
  refine pm_iconst (v := nI 0) d45_9 (by decide) ?_
  refine pm_callSv (k2 := 184) (As := [_, _]) d45_10 lk_7_31 ok_184 rfl rfl rfl (Nat.le_of_ble_eq_true rfl) rfl rfl ⟨Nat.le_of_ble_eq_true rfl, Nat.le_of_ble_eq_true rfl⟩ (Nat.le_of_ble_eq_true rfl) ?_
  refine sp_184 rfl (by decide) (fun A1 g1 g2 => ?_)
  refine pm_iconst (v := nI 0) d45_13 (by decide) ?_
  refine pm_istore_n (i := 2) (L2 := [(0, _), (1, _), (2, _)]) d45_14 rfl (by decide) rfl ?_
  refine outer 0 (Nat.zero_le _) A1 (fun c hc => by rw [g1 c (by omega), mset_other (by omega)]) ?_
  rw [(bd_st (a := 0) h1 h6).1]
  have z : ∀ a, dgt f a 0 = 0 := fun a => cnt_non (fun j _ => by rw [← Bool.not_eq_true, Nat.blt_eq]; omega)
  refine ⟨by rw [g1 5 (by decide), mset_at], fun i hi9 => absurd hi9 (Nat.not_lt_zero i), fun a ha => ?_, fun a j ha hj => ?_⟩
  · rw [z a]; exact g2 a (by omega)
  · rw [z a] at hj; exact absurd hj (Nat.not_lt_zero j)
