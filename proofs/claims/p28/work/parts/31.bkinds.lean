/-! HOW THE CLASS BUILDS ITS KINDS -/
theorem cnt_mono {p : Nat → Bool} {m n : Nat} (h : m ≤ n) : cnt p m ≤ cnt p n := by
  induction n with
  | zero => rw [Nat.le_zero.mp h]; exact Nat.le_refl _
  | succ n ih =>
    by_cases e : m = n + 1
    · rw [e]; exact Nat.le_refl _
    · refine Nat.le_trans (ih (by omega)) ?_
      simp only [cnt]
      omega
theorem cnt_lt {p : Nat → Bool} {q m : Nat} (h : p q = true) (hq : q < m) : cnt p q < cnt p m := by
  have := cnt_mono (p := p) (show q + 1 ≤ m by omega)
  rw [cnt_t h] at this
  omega
theorem cnt_sur {p : Nat → Bool} {n t : Nat} (h : t < cnt p n) : ∃ q, q < n ∧ p q = true ∧ cnt p q = t := by
  induction n with
  | zero => exact absurd h (Nat.not_lt_zero t)
  | succ n ih =>
    cases e : p n with
    | true =>
      rw [cnt_t e] at h
      by_cases e2 : t = cnt p n
      · exact ⟨n, by omega, e, e2.symm⟩
      · obtain ⟨q, a, b⟩ := ih (by omega)
        exact ⟨q, by omega, b⟩
    | false =>
      rw [cnt_f e] at h
      obtain ⟨q, a, b⟩ := ih h
      exact ⟨q, by omega, b⟩
theorem cnt_inj {p : Nat → Bool} {a b : Nat} (ha : p a = true) (hb : p b = true) (h : cnt p a = cnt p b) : a = b := by
  rcases Nat.lt_trichotomy a b with q | q | q
  · have := cnt_lt ha q; omega
  · exact q
  · have := cnt_lt hb q; omega
theorem cnt_ins {p p2 : Nat → Bool} {q0 : Nat} (h0 : p q0 = false) (h1 : p2 q0 = true) (ho : ∀ i, ¬ i = q0 → p2 i = p i) : ∀ q, (q ≤ q0 → cnt p2 q = cnt p q) ∧ (q0 < q → cnt p2 q = cnt p q + 1) := by
  intro q
  induction q with
  | zero => exact ⟨fun _ => rfl, fun h => absurd h (Nat.not_lt_zero _)⟩
  | succ q ih =>
    refine ⟨fun h => ?_, fun h => ?_⟩
    · simp only [cnt]
      rw [ih.1 (by omega), ho q (by omega)]
    · by_cases e : q = q0
      · subst e
        rw [cnt_t h1, cnt_f h0, ih.1 (Nat.le_refl _)]
      · simp only [cnt]
        rw [ih.2 (by omega), ho q e]
        omega
theorem tk_pr : allF (fun f => allN (ns f) (fun k => decide (pr f (lo f k) (hi f k) = nI (kn f k)) && (decide (pr f (lo f k) (lo f k) * pr f (hi f k) (hi f k) = nI (kd f k)) && (Nat.ble (kn f k) 36 && Nat.ble (kd f k) 1296)))) = true := by decide +kernel
theorem bd_pr {f k : Nat} (h1 : 1 ≤ f) (h6 : f ≤ 6) (hk : k < ns f) : pr f (lo f k) (hi f k) = nI (kn f k) ∧ pr f (lo f k) (lo f k) * pr f (hi f k) (hi f k) = nI (kd f k) ∧ kn f k ≤ 36 ∧ kd f k ≤ 1296 := by
  have h2 := allN_of (allF_of tk_pr h1 h6) hk
  simp only [Bool.and_eq_true, decide_eq_true_eq, Nat.ble_eq] at h2
  exact h2
theorem tk_cm : allF (fun f => allN (ns f) (fun k => allN (nk f) (fun q => cond (Nat.blt (ko f k) q) (Nat.blt (qn f q * qn f q * kd f k) (kn f k * kn f k * qd f q)) (cond (Nat.beq (ko f k) q) (Nat.beq (kn f k * kn f k * qd f q) (qn f q * qn f q * kd f k)) (Nat.blt (kn f k * kn f k * qd f q) (qn f q * qn f q * kd f k)))))) = true := by decide +kernel
theorem bd_cm {f k q : Nat} (h1 : 1 ≤ f) (h6 : f ≤ 6) (hk : k < ns f) (hq : q < nk f) : (ko f k < q → qn f q * qn f q * kd f k < kn f k * kn f k * qd f q) ∧ (ko f k = q → kn f k * kn f k * qd f q = qn f q * qn f q * kd f k) ∧ (q < ko f k → kn f k * kn f k * qd f q < qn f q * qn f q * kd f k) := by
  have h2 := allN_of (allN_of (allF_of tk_cm h1 h6) hk) hq
  cases e : Nat.blt (ko f k) q with
  | true =>
    rw [e] at h2
    simp only [cond, Nat.blt_eq] at h2
    rw [Nat.blt_eq] at e
    exact ⟨fun _ => h2, fun _ => by omega, fun _ => by omega⟩
  | false =>
    rw [e] at h2
    rw [← Bool.not_eq_true, Nat.blt_eq] at e
    cases e2 : Nat.beq (ko f k) q with
    | true =>
      rw [e2] at h2
      simp only [cond, Nat.beq_eq] at h2
      rw [Nat.beq_eq] at e2
      exact ⟨fun _ => by omega, fun _ => h2, fun _ => by omega⟩
    | false =>
      rw [e2] at h2
      simp only [cond, Nat.blt_eq] at h2
      rw [← Bool.not_eq_true, Nat.beq_eq] at e2
      exact ⟨fun _ => by omega, fun _ => by omega, fun _ => h2⟩
theorem tk_fk : allF (fun f => allN (nk f) (fun q => Nat.blt (fk f q) (ns f) && (Nat.beq (ko f (fk f q)) q && (Nat.beq (kn f (fk f q)) (qn f q) && Nat.beq (kd f (fk f q)) (qd f q)))) && allN (ns f) (fun k => Nat.ble (fk f (ko f k)) k)) = true := by decide +kernel
theorem bd_fk {f : Nat} (h1 : 1 ≤ f) (h6 : f ≤ 6) : (∀ q, q < nk f → fk f q < ns f ∧ ko f (fk f q) = q ∧ kn f (fk f q) = qn f q ∧ kd f (fk f q) = qd f q) ∧ ∀ k, k < ns f → fk f (ko f k) ≤ k := by
  have h0 := allF_of tk_fk h1 h6
  simp only [Bool.and_eq_true] at h0
  refine ⟨fun q hq => ?_, fun k hk => ?_⟩
  · have h2 := allN_of h0.1 hq
    simp only [Bool.and_eq_true, Nat.beq_eq, Nat.blt_eq] at h2
    exact h2
  · have h2 := allN_of h0.2 hk
    simp only [Nat.ble_eq] at h2
    exact h2
/-- kind q is among the first i struts -/
def prs9 (f i q : Nat) : Bool := Nat.blt (fk f q) i
def KB (f i : Nat) (A : Mem) : Prop := A 11 7 = nI (cnt (prs9 f i) (nk f)) ∧ ∀ q, q < nk f → prs9 f i q = true → A 16 (cnt (prs9 f i) q) = nI (qn f q) ∧ A 17 (cnt (prs9 f i) q) = nI (qd f q)
def icmpN (X Y : Nat) : Int32 := if X < Y then -1 else if X = Y then 0 else 1
theorem sp_183 {A : Mem} {Q : Int32 → Mem → Prop} {X Y : Nat} (hX : X < 2 ^ 31) (hY : Y < 2 ^ 31) (h : Q (icmpN X Y) A) : pm_P 183 0 [(0, .int (nI X)), (1, .int (nI Y))] [] A Q := by
  unfold icmpN at h
  refine pm_iload_n (i := 0) d183_0 rfl rfl ?_
  refine pm_iload_n (i := 1) d183_1 rfl rfl ?_
  first | refine pm_icmp_geN (tgt := 9) d183_2 rfl (by omega) (by omega) (fun c_2 => ?_) (fun c_2 => ?_) | refine pm_icmp_ge (tgt := 9) d183_2 rfl (fun c_2 => ?_) (fun c_2 => ?_)
  · refine pm_iload_n (i := 0) d183_9 rfl rfl ?_
    refine pm_iload_n (i := 1) d183_10 rfl rfl ?_
    first | refine pm_icmp_neN (tgt := 18) d183_11 rfl (by omega) (by omega) (fun c_11 => ?_) (fun c_11 => ?_) | refine pm_icmp_ne (tgt := 18) d183_11 rfl (fun c_11 => ?_) (fun c_11 => ?_)
    · refine pm_iconst (v := nI 1) d183_18 (by decide) ?_
      refine pm_iret d183_19 rfl (by first | rfl | exact nar_b _) ?_
      rw [if_neg (by omega), if_neg c_11] at h
      exact h
    · refine pm_iconst (v := nI 0) d183_14 (by decide) ?_
      refine pm_goto (tgt := 19) d183_15 rfl ?_
      refine pm_iret d183_19 rfl (by first | rfl | exact nar_b _) ?_
      rw [if_neg (by omega), if_pos c_11] at h
      exact h
  · refine pm_iconst (v := -1) d183_5 (by decide) ?_
    refine pm_goto (tgt := 19) d183_6 rfl ?_
    refine pm_iret d183_19 rfl (by first | rfl | exact nar_b _) ?_
    rw [if_pos c_2] at h
    exact h
theorem sp_20 {f q n d p : Nat} {A : Mem} {Q : Int32 → Mem → Prop} (h1 : 1 ≤ f) (h6 : f ≤ 6) (hq : q < nk f) (hn : n ≤ 36) (hd : d ≤ 1296) (hp : p < 16) (e1 : A 16 p = nI (qn f q)) (e2 : A 17 p = nI (qd f q)) (h : Q (icmpN (n * n * qd f q) (qn f q * qn f q * d)) A) : pm_P 20 0 [(0, .ref 11), (1, .int (nI n)), (2, .int (nI d)), (3, .int (nI p))] [] A Q := by
  obtain ⟨b1, b2, b3⟩ := bd_q h1 h6 hq
  have hx1 : n * n * qd f q ≤ 36 * 36 * 1023 := Nat.mul_le_mul (Nat.mul_le_mul hn hn) b2
  have hx2 : qn f q * qn f q * d ≤ 36 * 36 * 1296 := Nat.mul_le_mul (Nat.mul_le_mul b1 b1) hd
  refine pm_iload_n (i := 1) d20_0 rfl rfl ?_
  refine pm_iload_n (i := 1) d20_1 rfl rfl ?_
  first | refine pm_imulN d20_2 ?_ | refine pm_imul d20_2 ?_
  refine pm_aload_n (i := 0) d20_3 rfl rfl ?_
  refine pm_getR d20_4 lf_3_27 rfl rfl ?_
  refine pm_iload_n (i := 3) d20_7 rfl rfl ?_
  refine pm_ialdN d20_8 rfl (by decide) (by omega) ?_
  rw [e2]
  first | refine pm_imulN d20_9 ?_ | refine pm_imul d20_9 ?_
  refine pm_aload_n (i := 0) d20_10 rfl rfl ?_
  refine pm_getR d20_11 lf_3_24 rfl rfl ?_
  refine pm_iload_n (i := 3) d20_14 rfl rfl ?_
  refine pm_ialdN d20_15 rfl (by decide) (by omega) ?_
  rw [e1]
  refine pm_aload_n (i := 0) d20_16 rfl rfl ?_
  refine pm_getR d20_17 lf_3_24 rfl rfl ?_
  refine pm_iload_n (i := 3) d20_20 rfl rfl ?_
  refine pm_ialdN d20_21 rfl (by decide) (by omega) ?_
  rw [e1]
  first | refine pm_imulN d20_22 ?_ | refine pm_imul d20_22 ?_
  refine pm_iload_n (i := 2) d20_23 rfl rfl ?_
  first | refine pm_imulN d20_24 ?_ | refine pm_imul d20_24 ?_
  refine pm_callS (k2 := 183) (As := [_, _]) d20_25 lk_3_66 ok_183 rfl rfl rfl (Nat.le_of_ble_eq_true rfl) rfl rfl ⟨Nat.le_of_ble_eq_true rfl, Nat.le_of_ble_eq_true rfl⟩ (Nat.le_of_ble_eq_true rfl) ?_
  refine sp_183 (by omega) (by omega) ?_
  refine pm_iret d20_28 rfl (by first | rfl | exact nar_b _) ?_
  exact h
theorem KB_at {f i p : Nat} {A : Mem} (h : KB f i A) (hp : p < cnt (prs9 f i) (nk f)) : ∃ q, q < nk f ∧ prs9 f i q = true ∧ cnt (prs9 f i) q = p ∧ A 16 p = nI (qn f q) ∧ A 17 p = nI (qd f q) := by
  obtain ⟨q, a, b, c⟩ := cnt_sur hp
  have := h.2 q a b
  rw [c] at this
  exact ⟨q, a, b, c, this⟩
theorem place9 {P : Nat → Bool} {n q0 p : Nat} (hq0 : q0 ≤ n) (hb : ∀ q, q < n → P q = true → cnt P q < p → q < q0) (h : p = cnt P n ∨ ∃ q, q < n ∧ q0 ≤ q ∧ P q = true ∧ cnt P q = p) : cnt P q0 = p := by
  have hle : cnt P q0 ≤ p := by
    rcases h with h | ⟨q, h1, h2, h3, h4⟩
    · rw [h]; exact cnt_mono hq0
    · rw [← h4]; exact cnt_mono h2
  rcases Nat.lt_or_ge (cnt P q0) p with q | q
  · have hlt : cnt P q0 < cnt P n := by
      rcases h with h | ⟨q2, h1, h2, h3, h4⟩
      · omega
      · have := cnt_lt h3 h1; omega
    obtain ⟨q2, a, b, c⟩ := cnt_sur hlt
    have := cnt_lt b (hb q2 a b (by omega))
    omega
  · omega
theorem sp_19 {f i k : Nat} {A : Mem} {Q : Int32 → Mem → Prop} (h1 : 1 ≤ f) (h6 : f ≤ 6) (hk : k < ns f) (hK : KB f i A) (h : Q (nI (cnt (prs9 f i) (ko f k))) A) : pm_P 19 0 [(0, .ref 11), (1, .int (nI (kn f k))), (2, .int (nI (kd f k)))] [] A Q := by
  have hb := bd_n h1 h6
  have hko := (bd_s h1 h6 hk).2.2.1
  obtain ⟨-, -, p1, p2⟩ := bd_pr h1 h6 hk
  have hcl := cnt_le (prs9 f i) (nk f)
  have lp : ∀ p, p ≤ cnt (prs9 f i) (nk f) → (∀ q, q < nk f → prs9 f i q = true → cnt (prs9 f i) q < p → q < ko f k) → pm_P 19 2 [(0, .ref 11), (1, .int (nI (kn f k))), (2, .int (nI (kd f k))), (3, .int (nI p))] [] A Q := by
    refine up_ind (fun p hp ih hbl => ?_)
    by_cases hlt : p < cnt (prs9 f i) (nk f)
    · obtain ⟨q, a1, a2, a3, a4, a5⟩ := KB_at hK hlt
      obtain ⟨c1, c2, c3⟩ := bd_cm h1 h6 hk a1
      refine pm_iload_n (i := 3) d19_2 rfl rfl ?_
      refine pm_aload_n (i := 0) d19_3 rfl rfl ?_
      refine pm_getE d19_4 lf_3_30 rfl rfl (hK.1) ?_
      first | refine pm_icmp_geN (tgt := 28) d19_7 rfl (by omega) (by omega) (fun c_7 => ?_) (fun c_7 => ?_) | refine pm_icmp_ge (tgt := 28) d19_7 rfl (fun c_7 => ?_) (fun c_7 => ?_)
      · omega
      · refine pm_aload_n (i := 0) d19_10 rfl rfl ?_
        refine pm_iload_n (i := 1) d19_11 rfl rfl ?_
        refine pm_iload_n (i := 2) d19_12 rfl rfl ?_
        refine pm_iload_n (i := 3) d19_13 rfl rfl ?_
        refine pm_callV (k2 := 20) (As := [_, _, _]) d19_14 lk_3_62 ok_20 rfl rfl rfl (Nat.le_of_ble_eq_true rfl) rfl rfl rfl rfl rfl ⟨Nat.le_of_ble_eq_true rfl, Nat.le_of_ble_eq_true rfl⟩ (Nat.le_of_ble_eq_true rfl) ?_
        refine sp_20 h1 h6 a1 p1 p2 (by omega) a4 a5 ?_
        refine pm_if_lt (tgt := 22) d19_17 rfl (fun c_17 => ?_) (fun c_17 => ?_)
        · first | refine pm_iincN 1 (L2 := [(0, _), (1, _), (2, _), (3, _)]) d19_22 rfl (by decide) rfl ?_ | refine pm_iinc (L2 := [(0, _), (1, _), (2, _), (3, _)]) d19_22 rfl rfl (by decide) rfl ?_
          refine pm_goto (tgt := 2) d19_25 rfl ?_
          have hq : q < ko f k := by
            rcases Nat.lt_or_ge q (ko f k) with g | g
            · exact g
            · exfalso
              unfold icmpN at c_17
              by_cases e : ko f k = q
              · rw [if_neg (by have := c2 e; omega), if_pos (c2 e)] at c_17
                exact absurd c_17 (by decide)
              · have := c1 (by omega)
                rw [if_neg (by omega), if_neg (by omega)] at c_17
                exact absurd c_17 (by decide)
          refine ih hlt (fun q2 b1 b2 b3 => ?_)
          by_cases e : cnt (prs9 f i) q2 = p
          · rw [cnt_inj b2 a2 (by omega)]; exact hq
          · exact hbl q2 b1 b2 (by omega)
        · refine pm_iload_n (i := 3) d19_20 rfl rfl ?_
          refine pm_iret d19_21 rfl (by first | rfl | exact nar_b _) ?_
          have hq : ko f k ≤ q := by
            rcases Nat.lt_or_ge q (ko f k) with g | g
            · unfold icmpN at c_17
              rw [if_pos (c3 g)] at c_17
              exact absurd (by decide) c_17
            · exact g
          rw [place9 (by omega) hbl (Or.inr ⟨q, a1, hq, a2, a3⟩)] at h
          exact h
    · have ep : p = cnt (prs9 f i) (nk f) := by omega
      refine pm_iload_n (i := 3) d19_2 rfl rfl ?_
      refine pm_aload_n (i := 0) d19_3 rfl rfl ?_
      refine pm_getE d19_4 lf_3_30 rfl rfl (hK.1) ?_
      first | refine pm_icmp_geN (tgt := 28) d19_7 rfl (by omega) (by omega) (fun c_7 => ?_) (fun c_7 => ?_) | refine pm_icmp_ge (tgt := 28) d19_7 rfl (fun c_7 => ?_) (fun c_7 => ?_)
      · refine pm_aload_n (i := 0) d19_28 rfl rfl ?_
        refine pm_getE d19_29 lf_3_30 rfl rfl (hK.1) ?_
        refine pm_iret d19_32 rfl (by first | rfl | exact nar_b _) ?_
        rw [place9 (by omega) hbl (Or.inl ep), ep] at h
        exact h
      · omega
  refine pm_iconst (v := nI 0) d19_0 (by decide) ?_
  refine pm_istore_n (i := 3) (L2 := [(0, _), (1, _), (2, _), (3, _)]) d19_1 rfl (by decide) rfl ?_
  exact lp 0 (Nat.zero_le _) (fun q _ _ hq => absurd hq (Nat.not_lt_zero _))
theorem KB_known {f k : Nat} {A : Mem} (h1 : 1 ≤ f) (h6 : f ≤ 6) (hk : k < ns f) (hp : prs9 f k (ko f k) = true) (h : KB f k A) : KB f (k + 1) A := by
  have e : ∀ q, q < nk f → prs9 f (k + 1) q = prs9 f k q := by
    intro q hq
    unfold prs9 at *
    rw [Nat.blt_eq] at hp
    rw [Bool.eq_iff_iff, Nat.blt_eq, Nat.blt_eq]
    have hne : ¬ fk f q = k := fun g => by
      have := ((bd_fk h1 h6).1 q hq).2.1
      rw [g] at this
      rw [← this] at g
      omega
    omega
  refine ⟨?_, fun q hq hpq => ?_⟩
  · rw [h.1, cnt_congr e]
  · rw [cnt_congr (n := q) (fun i hi9 => e i (by omega))]
    exact h.2 q hq (by rw [← e q hq]; exact hpq)
theorem KB_new {f k : Nat} {A A2 : Mem} (h1 : 1 ≤ f) (h6 : f ≤ 6) (hk : k < ns f) (hp : prs9 f k (ko f k) = false) (h : KB f k A)
    (g0 : A2 11 7 = nI (cnt (prs9 f k) (nk f) + 1)) (g1 : A2 16 (cnt (prs9 f k) (ko f k)) = nI (kn f k) ∧ A2 17 (cnt (prs9 f k) (ko f k)) = nI (kd f k))
    (g2 : ∀ p, p < cnt (prs9 f k) (ko f k) → A2 16 p = A 16 p ∧ A2 17 p = A 17 p) (g3 : ∀ p, cnt (prs9 f k) (ko f k) ≤ p → p < cnt (prs9 f k) (nk f) → A2 16 (p + 1) = A 16 p ∧ A2 17 (p + 1) = A 17 p) : KB f (k + 1) A2 := by
  have hko := (bd_s h1 h6 hk).2.2.1
  have hfk : fk f (ko f k) = k := by
    have := (bd_fk h1 h6).2 k hk
    unfold prs9 at hp
    rw [← Bool.not_eq_true, Nat.blt_eq] at hp
    omega
  have hnew : prs9 f (k + 1) (ko f k) = true := by
    unfold prs9
    rw [Nat.blt_eq, hfk]
    omega
  have hin := cnt_ins (p := fun q => prs9 f k q) (p2 := fun q => if q < nk f then prs9 f (k + 1) q else prs9 f k q) (q0 := ko f k) hp (by simp [hko, hnew]) (fun q hq => by
    by_cases hqn : q < nk f
    · simp only [if_pos hqn]
      unfold prs9
      rw [Bool.eq_iff_iff, Nat.blt_eq, Nat.blt_eq]
      have hne : ¬ fk f q = k := fun g => by
        have := ((bd_fk h1 h6).1 q hqn).2.1
        rw [g] at this
        exact hq this.symm
      omega
    · simp only [if_neg hqn])
  have hc : ∀ q, q ≤ nk f → cnt (prs9 f (k + 1)) q = cnt (fun q => if q < nk f then prs9 f (k + 1) q else prs9 f k q) q := fun q hq => cnt_congr (fun i hi9 => by rw [if_pos (by omega)])
  have hin2 : ∀ q, q ≤ nk f → (q ≤ ko f k → cnt (prs9 f (k + 1)) q = cnt (prs9 f k) q) ∧ (ko f k < q → cnt (prs9 f (k + 1)) q = cnt (prs9 f k) q + 1) := fun q hq => by rw [hc q hq]; exact hin q
  refine ⟨by rw [(hin2 _ (Nat.le_refl _)).2 hko]; exact g0, fun q hq hpq => ?_⟩
  rcases Nat.lt_trichotomy q (ko f k) with g | g | g
  · have hold : prs9 f k q = true := by
      unfold prs9 at *
      rw [Nat.blt_eq] at *
      have hne : ¬ fk f q = k := fun e => by
        have := ((bd_fk h1 h6).1 q hq).2.1
        rw [e] at this
        omega
      omega
    rw [(hin2 q (by omega)).1 (by omega)]
    have := g2 _ (cnt_lt hold g)
    rw [this.1, this.2]
    exact h.2 q hq hold
  · rw [g, (hin2 _ (by omega)).1 (Nat.le_refl _), g1.1, g1.2]
    have := (bd_fk h1 h6).1 _ hko
    rw [hfk] at this
    rw [this.2.2.1, this.2.2.2]
    exact ⟨rfl, rfl⟩
  · have hold : prs9 f k q = true := by
      unfold prs9 at *
      rw [Nat.blt_eq] at *
      have hne : ¬ fk f q = k := fun e => by
        have := ((bd_fk h1 h6).1 q hq).2.1
        rw [e] at this
        omega
      omega
    rw [(hin2 q (by omega)).2 g]
    have := g3 _ (cnt_mono (Nat.le_of_lt g)) (cnt_lt hold hq)
    rw [this.1, this.2]
    exact h.2 q hq hold
