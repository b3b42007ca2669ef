/-! THE MILL: the pieces in their order, and what has been sawn -/
def pcs (s : Stt) : Nat → Nat × (Nat → Nat)
  | 0 => (0, fun _ => 0)
  | n + 1 => if ks s (so (sF s) n) then ((pcs s n).1 + 1, uN (pcs s n).2 (pcs s n).1 (so (sF s) n)) else pcs s n
/-- how many struts are kept, and which, in the order of sawing -/
def nw (s : Stt) : Nat := (pcs s (ns (sF s))).1
def kp (s : Stt) : Nat → Nat := (pcs s (ns (sF s))).2
theorem pcs_t {s : Stt} {n : Nat} (h : ks s (so (sF s) n) = true) : pcs s (n + 1) = ((pcs s n).1 + 1, uN (pcs s n).2 (pcs s n).1 (so (sF s) n)) := by simp [pcs, h]
theorem pcs_f {s : Stt} {n : Nat} (h : ks s (so (sF s) n) = false) : pcs s (n + 1) = pcs s n := by simp [pcs, h]
theorem pcs_le (s : Stt) : ∀ n, (pcs s n).1 ≤ n := by
  intro n
  induction n with
  | zero => exact Nat.le_refl 0
  | succ n ih =>
    cases h : ks s (so (sF s) n) with
    | true => rw [pcs_t h]; dsimp only; omega
    | false => rw [pcs_f h]; omega
theorem pcs_mono (s : Stt) (n : Nat) : ∀ d, (pcs s n).1 ≤ (pcs s (n + d)).1 ∧ ∀ i, i < (pcs s n).1 → (pcs s (n + d)).2 i = (pcs s n).2 i := by
  intro d
  induction d with
  | zero => exact ⟨Nat.le_refl _, fun _ _ => rfl⟩
  | succ d ih =>
    rw [← Nat.add_assoc]
    cases h : ks s (so (sF s) (n + d)) with
    | true =>
      rw [pcs_t h]
      exact ⟨Nat.le_trans ih.1 (Nat.le_succ _), fun i hi9 => by rw [← ih.2 i hi9]; exact uN_ne (by omega)⟩
    | false => rw [pcs_f h]; exact ih
theorem pcs_src (s : Stt) : ∀ n i, i < (pcs s n).1 → ∃ m, m < n ∧ (pcs s n).2 i = so (sF s) m ∧ ks s (so (sF s) m) = true ∧ (pcs s m).1 = i := by
  intro n
  induction n with
  | zero => intro i h; exact absurd h (Nat.not_lt_zero i)
  | succ n ih =>
    intro i hi9
    cases h : ks s (so (sF s) n) with
    | true =>
      rw [pcs_t h] at hi9 ⊢
      dsimp only at hi9 ⊢
      by_cases e : i = (pcs s n).1
      · exact ⟨n, by omega, by rw [e, uN_at], h, e.symm⟩
      · obtain ⟨m, a1, a2, a3, a4⟩ := ih i (by omega)
        exact ⟨m, by omega, by rw [uN_ne e]; exact a2, a3, a4⟩
    | false =>
      rw [pcs_f h] at hi9 ⊢
      obtain ⟨m, a1, a2, a3, a4⟩ := ih i hi9
      exact ⟨m, by omega, a2, a3, a4⟩
theorem kp_here {s : Stt} {n : Nat} (hn : n < ns (sF s)) (h : ks s (so (sF s) n) = true) : (pcs s n).1 < nw s ∧ kp s (pcs s n).1 = so (sF s) n := by
  obtain ⟨d, hd⟩ : ∃ d, ns (sF s) = (n + 1) + d := ⟨ns (sF s) - (n + 1), by omega⟩
  have h1 := pcs_mono s (n + 1) d
  rw [← hd, pcs_t h] at h1
  dsimp only at h1
  exact ⟨by unfold nw; omega, by unfold kp; rw [h1.2 _ (by omega), uN_at]⟩
/-- the place of strut k among all, by kinds from the last one down -/
def pos (f q k : Nat) : Nat := cnt (fun i => Nat.blt q (ko f i)) (ns f) + cnt (fun i => Nat.beq (ko f i) q) k
theorem tk_so : allF (fun f => allN (ns f) (fun k => Nat.beq (so f (pos f (ko f k) k)) k && Nat.blt (pos f (ko f k) k) (ns f))) = true := by decide +kernel
theorem tk_sk : allF (fun f => allN (ns f - 1) (fun i => Nat.ble (ko f (so f (i + 1))) (ko f (so f i)))) = true := by decide +kernel
theorem so_pos {f k : Nat} (h1 : 1 ≤ f) (h6 : f ≤ 6) (hk : k < ns f) : so f (pos f (ko f k) k) = k ∧ pos f (ko f k) k < ns f := by
  have h2 := allN_of (allF_of tk_so h1 h6) hk
  simp only [Bool.and_eq_true, Nat.beq_eq, Nat.blt_eq] at h2
  exact h2
theorem so_anti {f : Nat} (h1 : 1 ≤ f) (h6 : f ≤ 6) : ∀ d i, i + d < ns f → ko f (so f (i + d)) ≤ ko f (so f i) := by
  intro d
  induction d with
  | zero => intro i _; exact Nat.le_refl _
  | succ d ih =>
    intro i hi9
    have h0 : allN (ns f - 1) (fun i => Nat.ble (ko f (so f (i + 1))) (ko f (so f i))) = true := allF_of tk_sk h1 h6
    have h2 := allN_of h0 (i := i + d) (by omega)
    simp only [Nat.ble_eq] at h2
    exact Nat.le_trans h2 (ih i (by omega))
theorem kp_ok {s : Stt} (h1 : 1 ≤ sF s) (h6 : sF s ≤ 6) {i : Nat} (hi9 : i < nw s) : kp s i < ns (sF s) ∧ ks s (kp s i) = true := by
  obtain ⟨m, a1, a2, a3, -⟩ := pcs_src s (ns (sF s)) i hi9
  have e : kp s i = so (sF s) m := a2
  rw [e]
  exact ⟨(bd_s h1 h6 a1).2.2.2, a3⟩
theorem kp_anti {s : Stt} (h1 : 1 ≤ sF s) (h6 : sF s ≤ 6) {i j : Nat} (hij : i ≤ j) (hj : j < nw s) : ko (sF s) (kp s j) ≤ ko (sF s) (kp s i) := by
  obtain ⟨m, a1, a2, a3, a4⟩ := pcs_src s (ns (sF s)) i (Nat.lt_of_le_of_lt hij hj)
  obtain ⟨m2, b1, b2, b3, b4⟩ := pcs_src s (ns (sF s)) j hj
  rw [show kp s j = so (sF s) m2 from b2, show kp s i = so (sF s) m from a2]
  have hm : m ≤ m2 := by
    rcases Nat.lt_or_ge m2 m with q | q
    · have h9 := (pcs_mono s (m2 + 1) (m - (m2 + 1))).1
      rw [show m2 + 1 + (m - (m2 + 1)) = m by omega, pcs_t b3] at h9
      dsimp only at h9
      omega
    · exact q
  have := so_anti h1 h6 (m2 - m) m (by omega)
  rwa [show m + (m2 - m) = m2 by omega] at this
theorem kp_all {s : Stt} (h1 : 1 ≤ sF s) (h6 : sF s ≤ 6) {k : Nat} (hk : k < ns (sF s)) (h : ks s k = true) : ∃ j, j < nw s ∧ kp s j = k := by
  obtain ⟨e, hp⟩ := so_pos h1 h6 hk
  have := kp_here hp (by rw [e]; exact h)
  rw [e] at this
  exact ⟨_, this⟩
theorem nw_le (s : Stt) : nw s ≤ ns (sF s) := pcs_le s _
/-- the length of a strut -/
def lnS (s : Stt) (R k : Nat) : Nat := len (sF s) (ko (sF s) k) R
abbrev fits (s : Stt) (R B : Nat) : Prop := ∀ k, k < ns (sF s) → ks s k = true → lnS s R k ≤ B
/-- all sawn -/
def swn (s : Stt) (R B S : Nat) : FS := sawP B S (lnS s R) (kp s) (nw s)
def enough (s : Stt) (R B S m : Nat) : Bool := decide (fits s R B) && decide ((swn s R B S).1 ≤ m)
theorem lnS_lt (s : Stt) (R k : Nat) : lnS s R k < 4096 := len_lt _ _ _
theorem lnS_pos {s : Stt} {R k : Nat} (h1 : 1 ≤ sF s) (h6 : sF s ≤ 6) (hk : k < ns (sF s)) (hR : 10 ≤ R) (hR2 : R ≤ 2000) : 1 ≤ lnS s R k := len_pos h1 h6 (bd_s h1 h6 hk).2.2.1 hR hR2
theorem fits_0 {s : Stt} {R B : Nat} (h1 : 1 ≤ sF s) (h6 : sF s ≤ 6) (hR2 : R ≤ 2000) (h : 0 < nw s → lnS s R (kp s 0) ≤ B) : fits s R B := by
  intro k hk hks
  obtain ⟨j, hj, e⟩ := kp_all h1 h6 hk hks
  rw [← e]
  have h9 := len_mono h1 h6 (bd_s h1 h6 (kp_ok h1 h6 (i := 0) (by omega)).1).2.2.1 (kp_anti h1 h6 (Nat.zero_le j) hj) hR2
  exact Nat.le_trans h9 (h (by omega))
theorem fits_ok {s : Stt} {R B : Nat} (h1 : 1 ≤ sF s) (h6 : sF s ≤ 6) (hR : 10 ≤ R) (hR2 : R ≤ 2000) (h : fits s R B) : ∀ w, w < nw s → 1 ≤ lnS s R (kp s w) ∧ lnS s R (kp s w) ≤ B := by
  intro w hw
  obtain ⟨a1, a2⟩ := kp_ok h1 h6 hw
  exact ⟨lnS_pos h1 h6 a1 hR hR2, h _ a1 a2⟩
/-- the mill is loaded -/
def ML (s : Stt) (A : Mem) : Prop := A 40 2 = nI (nw s) ∧ ∀ i, i < nw s → A 41 i = nI (kp s i) ∧ A 42 i = nI (ko (sF s) (kp s i))
def LN (f R : Nat) (A : Mem) : Prop := ∀ q, q < nk f → A 43 q = nI (len f q R)
theorem sp_30 {A : Mem} {Q : Int32 → Mem → Prop} (h : Q 0 (mset A 40 2 (nI 0))) : pm_P 30 0 [(0, .ref 40)] [] A Q := by
  refine pm_aload_n (i := 0) d30_0 rfl rfl ?_
  refine pm_iconst (v := nI 0) d30_1 (by decide) ?_
  refine pm_putI d30_2 lp_5_30 rfl rfl ?_
  refine pm_vret d30_5 rfl ?_
  exact h
theorem sp_31 {A : Mem} {Q : Int32 → Mem → Prop} {w : Nat} {a b : Int32} (hw : A 40 2 = nI w) (hw2 : w < 432) (h : Q 0 (mset (mset (mset A 41 w a) 42 w b) 40 2 (nI (w + 1)))) : pm_P 31 0 [(0, .ref 40), (1, .int a), (2, .int b)] [] A Q := by
  refine pm_aload_n (i := 0) d31_0 rfl rfl ?_
  refine pm_getE (v := nI w) d31_1 lf_5_30 rfl rfl (by simp [mset_get, hw]) ?_
  refine pm_sipush (v := nI 432) d31_4 (by decide) ?_
  first | refine pm_icmp_ltN (tgt := 11) d31_7 rfl (by omega) (by omega) (fun c_7 => ?_) (fun c_7 => ?_) | refine pm_icmp_lt (tgt := 11) d31_7 rfl (fun c_7 => ?_) (fun c_7 => ?_)
  · refine pm_aload_n (i := 0) d31_11 rfl rfl ?_
    refine pm_getR d31_12 lf_5_9 rfl rfl ?_
    refine pm_aload_n (i := 0) d31_15 rfl rfl ?_
    refine pm_getE (v := nI w) d31_16 lf_5_30 rfl rfl (by simp [mset_get, hw]) ?_
    refine pm_iload_n (i := 1) d31_19 rfl rfl ?_
    refine pm_iastN d31_20 rfl (by decide) (by omega) ?_
    refine pm_aload_n (i := 0) d31_21 rfl rfl ?_
    refine pm_getR d31_22 lf_5_15 rfl rfl ?_
    refine pm_aload_n (i := 0) d31_25 rfl rfl ?_
    refine pm_getE (v := nI w) d31_26 lf_5_30 rfl rfl (by simp [mset_get, hw]) ?_
    refine pm_iload_n (i := 2) d31_29 rfl rfl ?_
    refine pm_iastN d31_30 rfl (by decide) (by omega) ?_
    refine pm_aload_n (i := 0) d31_31 rfl rfl ?_
    refine pm_dup d31_32 rfl ?_
    refine pm_getE (v := nI w) d31_33 lf_5_30 rfl rfl (by simp [mset_get, hw]) ?_
    refine pm_iconst (v := nI 1) d31_36 (by decide) ?_
    first | refine pm_iaddN d31_37 ?_ | refine pm_iadd d31_37 ?_
    refine pm_putI d31_38 lp_5_30 rfl rfl ?_
    refine pm_vret d31_41 rfl ?_
    exact h
  · omega
theorem sp_107 {s : Stt} {A : Mem} {Q : Int32 → Mem → Prop} (hI : CI s A) (h : ∀ A2 : Mem, (∀ c, c ≠ 40 → c ≠ 41 → c ≠ 42 → A2 c = A c) → ML s A2 → Q 0 A2) : pm_P 107 0 [(0, .ref 0)] [] A Q := by
  have hb := CI_bd hI
  have lp : ∀ i, i ≤ ns (sF s) → ∀ A1 : Mem, (∀ c, c ≠ 40 → c ≠ 41 → c ≠ 42 → A1 c = A c) → A1 40 2 = nI (pcs s i).1 → (∀ j, j < (pcs s i).1 → A1 41 j = nI ((pcs s i).2 j) ∧ A1 42 j = nI (ko (sF s) ((pcs s i).2 j))) → pm_P 107 9 [(0, .ref 0), (1, .int (nI i))] [] A1 Q := by
    refine up_ind (fun i hi9 ih A1 hA hc hr => ?_)
    have hI1 : CI s A1 := CI_keep hI (fun c hc => hA c (by omega) (by omega) (by omega))
    have hle := pcs_le s i
    refine pm_iload_n (i := 1) d107_9 rfl rfl ?_
    refine pm_aload_n (i := 0) d107_10 rfl rfl ?_
    refine pm_getR d107_11 lf_10_19 rfl rfl ?_
    refine pm_getE d107_14 lf_10_127 rfl rfl (CI_ns hI1) ?_
    first | refine pm_icmp_geN (tgt := 61) d107_17 rfl (by omega) (by omega) (fun c_17 => ?_) (fun c_17 => ?_) | refine pm_icmp_ge (tgt := 61) d107_17 rfl (fun c_17 => ?_) (fun c_17 => ?_)
    · refine pm_vret d107_61 rfl ?_
      have e : i = ns (sF s) := by omega
      rw [e] at hc hr
      exact h A1 hA ⟨hc, hr⟩
    · have hso := (bd_s hI.1.1 hI.1.2.1 c_17).2.2.2 
      refine pm_aload_n (i := 0) d107_20 rfl rfl ?_
      refine pm_getR d107_21 lf_10_26 rfl rfl ?_
      refine pm_getR d107_24 lf_10_348 rfl rfl ?_
      refine pm_iload_n (i := 1) d107_27 rfl rfl ?_
      refine pm_ialdN d107_28 rfl (by decide) (by omega) ?_
      rw [(hI1.2.1.2.2.1.2.2.1 i c_17).2.2.2]
      refine pm_istore_n (i := 2) (L2 := [(0, _), (1, _), (2, _)]) d107_29 rfl (by decide) rfl ?_
      refine pm_aload_n (i := 0) d107_30 rfl rfl ?_
      refine pm_iload_n (i := 2) d107_31 rfl rfl ?_
      refine pm_callV (k2 := 90) (As := [_]) d107_32 lk_10_224 ok_90 rfl rfl rfl (Nat.le_of_ble_eq_true rfl) rfl rfl rfl rfl rfl ⟨Nat.le_of_ble_eq_true rfl, Nat.le_of_ble_eq_true rfl⟩ (Nat.le_of_ble_eq_true rfl) ?_
      refine sp_90 hI1 hso ?_
      first | refine pm_if_eqB (tgt := 55) d107_35 rfl (fun c_35 => ?_) (fun c_35 => ?_) | refine pm_if_eqN (tgt := 55) d107_35 rfl (by omega) (fun c_35 => ?_) (fun c_35 => ?_) | refine pm_if_eq (tgt := 55) d107_35 rfl (fun c_35 => ?_) (fun c_35 => ?_)
      · first | refine pm_iincN 1 (L2 := [(0, _), (1, _), (2, _)]) d107_55 rfl (by decide) rfl ?_ | refine pm_iinc (L2 := [(0, _), (1, _), (2, _)]) d107_55 rfl rfl (by decide) rfl ?_
        refine pm_goto (tgt := 9) d107_58 rfl ?_
        refine pm_pick [0, 1] (L2 := [(0, _), (1, _)]) rfl ?_
        exact ih c_17 A1 hA (by rw [pcs_f c_35]; exact hc) (by rw [pcs_f c_35]; exact hr)
      · refine pm_aload_n (i := 0) d107_38 rfl rfl ?_
        refine pm_getR d107_39 lf_10_61 rfl rfl ?_
        refine pm_iload_n (i := 2) d107_42 rfl rfl ?_
        refine pm_aload_n (i := 0) d107_43 rfl rfl ?_
        refine pm_getR d107_44 lf_10_26 rfl rfl ?_
        refine pm_getR d107_47 lf_10_218 rfl rfl ?_
        refine pm_iload_n (i := 2) d107_50 rfl rfl ?_
        refine pm_ialdN d107_51 rfl (by decide) (by omega) ?_
        rw [CI_ko hI1 hso]
        refine pm_callVv (k2 := 31) (As := [_, _]) d107_52 lk_10_351 ok_31 rfl rfl rfl (Nat.le_of_ble_eq_true rfl) rfl rfl rfl rfl rfl ⟨Nat.le_of_ble_eq_true rfl, Nat.le_of_ble_eq_true rfl⟩ (Nat.le_of_ble_eq_true rfl) ?_
        refine sp_31 hc (by omega) ?_
        first | refine pm_iincN 1 (L2 := [(0, _), (1, _), (2, _)]) d107_55 rfl (by decide) rfl ?_ | refine pm_iinc (L2 := [(0, _), (1, _), (2, _)]) d107_55 rfl rfl (by decide) rfl ?_
        refine pm_goto (tgt := 9) d107_58 rfl ?_
        refine pm_pick [0, 1] (L2 := [(0, _), (1, _)]) rfl ?_
        refine ih c_17 _ (fun c q1 q2 q3 => by rw [mset_other q1, mset_other q3, mset_other q2]; exact hA c q1 q2 q3) (by rw [pcs_t c_35]; simp [mset_get]) ?_
        rw [pcs_t c_35]
        dsimp only
        intro j hj
        by_cases e : j = (pcs s i).1
        · rw [e, uN_at]
          simp [mset_get]
        · have := hr j (by omega)
          rw [uN_ne e]
          simp only [mset_get]
          simp [e, this]
  refine pm_aload_n (i := 0) d107_0 rfl rfl ?_
  refine pm_getR d107_1 lf_10_61 rfl rfl ?_
  refine pm_callVv (k2 := 30) (As := []) d107_4 lk_10_345 ok_30 rfl rfl rfl (Nat.le_of_ble_eq_true rfl) rfl rfl rfl rfl rfl ⟨Nat.le_of_ble_eq_true rfl, Nat.le_of_ble_eq_true rfl⟩ (Nat.le_of_ble_eq_true rfl) ?_
  refine sp_30 ?_
  refine pm_iconst (v := nI 0) d107_7 (by decide) ?_
  refine pm_istore_n (i := 1) (L2 := [(0, _), (1, _)]) d107_8 rfl (by decide) rfl ?_
  exact lp 0 (Nat.zero_le _) _ (fun c q1 q2 q3 => by rw [mset_other q1]) (by simp [mset_get, pcs]) (fun j hj => absurd hj (Nat.not_lt_zero j))
theorem sp_32 {f R : Nat} {A : Mem} {Q : Int32 → Mem → Prop} (h1 : 1 ≤ f) (h6 : f ≤ 6) (hK : ∀ q, q < nk f → A 16 q = nI (qn f q) ∧ A 17 q = nI (qd f q)) (hn : A 11 7 = nI (nk f)) (hR : R ≤ 2000) (h : ∀ A2 : Mem, (∀ c, c ≠ 43 → A2 c = A c) → LN f R A2 → Q 0 A2) : pm_P 32 0 [(0, .ref 40), (1, .ref 11), (2, .int (nI R))] [] A Q := by
  have hb := bd_n h1 h6
  have lp : ∀ i, i ≤ nk f → ∀ A1 : Mem, (∀ c, c ≠ 43 → A1 c = A c) → (∀ q, q < i → A1 43 q = nI (len f q R)) → pm_P 32 2 [(0, .ref 40), (1, .ref 11), (2, .int (nI R)), (3, .int (nI i))] [] A1 Q := by
    refine up_ind (fun i hi9 ih A1 hA hr => ?_)
    refine pm_iload_n (i := 3) d32_2 rfl rfl ?_
    refine pm_aload_n (i := 1) d32_3 rfl rfl ?_
    refine pm_getE (v := nI (nk f)) d32_4 lf_5_34 rfl rfl (by rw [hA 11 (by decide), hn]) ?_
    first | refine pm_icmp_geN (tgt := 28) d32_7 rfl (by omega) (by omega) (fun c_7 => ?_) (fun c_7 => ?_) | refine pm_icmp_ge (tgt := 28) d32_7 rfl (fun c_7 => ?_) (fun c_7 => ?_)
    · refine pm_vret d32_28 rfl ?_
      exact h A1 hA (fun q hq => hr q (by omega))
    · refine pm_aload_n (i := 0) d32_10 rfl rfl ?_
      refine pm_getR d32_11 lf_5_18 rfl rfl ?_
      refine pm_iload_n (i := 3) d32_14 rfl rfl ?_
      refine pm_aload_n (i := 1) d32_15 rfl rfl ?_
      refine pm_iload_n (i := 3) d32_16 rfl rfl ?_
      refine pm_iload_n (i := 2) d32_17 rfl rfl ?_
      refine pm_callV (k2 := 24) (As := [_, _]) d32_18 lk_5_39 ok_24 rfl rfl rfl (Nat.le_of_ble_eq_true rfl) rfl rfl rfl rfl rfl ⟨Nat.le_of_ble_eq_true rfl, Nat.le_of_ble_eq_true rfl⟩ (Nat.le_of_ble_eq_true rfl) ?_
      refine sp_24 h1 h6 (fun q hq => by rw [hA 16 (by decide), hA 17 (by decide)]; exact hK q hq) c_7 hR ?_
      refine pm_iastN d32_21 rfl (by decide) (by omega) ?_
      first | refine pm_iincN 1 (L2 := [(0, _), (1, _), (2, _), (3, _)]) d32_22 rfl (by decide) rfl ?_ | refine pm_iinc (L2 := [(0, _), (1, _), (2, _), (3, _)]) d32_22 rfl rfl (by decide) rfl ?_
      refine pm_goto (tgt := 2) d32_25 rfl ?_
      refine ih c_7 _ (fun c q1 => by rw [mset_other q1]; exact hA c q1) (fun q hq => ?_)
      rw [mset_get]
      by_cases e : q = i
      · rw [if_pos ⟨rfl, e⟩, e]
      · rw [if_neg (fun g => e g.2)]
        exact hr q (by omega)
  refine pm_iconst (v := nI 0) d32_0 (by decide) ?_
  refine pm_istore_n (i := 3) (L2 := [(0, _), (1, _), (2, _), (3, _)]) d32_1 rfl (by decide) rfl ?_
  exact lp 0 (Nat.zero_le _) A (fun c _ => rfl) (fun q hq => absurd hq (Nat.not_lt_zero q))
theorem sp_36 {s : Stt} {R : Nat} {A : Mem} {Q : Int32 → Mem → Prop} (h1 : 1 ≤ sF s) (h6 : sF s ≤ 6) (hM : ML s A) (hN : LN (sF s) R A) (h : Q (nI (smN (fun i => lnS s R (kp s i)) (nw s))) A) : pm_P 36 0 [(0, .ref 40)] [] A Q := by
  have hb := bd_n h1 h6
  have hw := nw_le s
  have lp : ∀ i, i ≤ nw s → pm_P 36 4 [(0, .ref 40), (1, .int (nI (smN (fun i => lnS s R (kp s i)) i))), (2, .int (nI i))] [] A Q := by
    refine up_ind (fun i hi9 ih => ?_)
    refine pm_iload_n (i := 2) d36_4 rfl rfl ?_
    refine pm_aload_n (i := 0) d36_5 rfl rfl ?_
    refine pm_getE d36_6 lf_5_30 rfl rfl (hM.1) ?_
    first | refine pm_icmp_geN (tgt := 32) d36_9 rfl (by omega) (by omega) (fun c_9 => ?_) (fun c_9 => ?_) | refine pm_icmp_ge (tgt := 32) d36_9 rfl (fun c_9 => ?_) (fun c_9 => ?_)
    · refine pm_iload_n (i := 1) d36_32 rfl rfl ?_
      refine pm_iret d36_33 rfl (by first | rfl | exact nar_b _) ?_
      have e : i = nw s := by omega
      rw [e]
      exact h
    · have hk := (bd_s h1 h6 (kp_ok h1 h6 c_9).1).2.2.1 
      refine pm_iload_n (i := 1) d36_12 rfl rfl ?_
      refine pm_aload_n (i := 0) d36_13 rfl rfl ?_
      refine pm_getR d36_14 lf_5_18 rfl rfl ?_
      refine pm_aload_n (i := 0) d36_17 rfl rfl ?_
      refine pm_getR d36_18 lf_5_15 rfl rfl ?_
      refine pm_iload_n (i := 2) d36_21 rfl rfl ?_
      refine pm_ialdN d36_22 rfl (by decide) (by omega) ?_
      rw [(hM.2 i c_9).2]
      refine pm_ialdN d36_23 rfl (by decide) (by omega) ?_
      rw [hN _ hk]
      first | refine pm_iaddN d36_24 ?_ | refine pm_iadd d36_24 ?_
      refine pm_istore_n (i := 1) (L2 := [(0, _), (1, _), (2, _)]) d36_25 rfl (by decide) rfl ?_
      first | refine pm_iincN 1 (L2 := [(0, _), (1, _), (2, _)]) d36_26 rfl (by decide) rfl ?_ | refine pm_iinc (L2 := [(0, _), (1, _), (2, _)]) d36_26 rfl rfl (by decide) rfl ?_
      refine pm_goto (tgt := 4) d36_29 rfl ?_
      exact ih c_9
  refine pm_iconst (v := nI 0) d36_0 (by decide) ?_
  refine pm_istore_n (i := 1) (L2 := [(0, _), (1, _)]) d36_1 rfl (by decide) rfl ?_
  refine pm_iconst (v := nI 0) d36_2 (by decide) ?_
  refine pm_istore_n (i := 2) (L2 := [(0, _), (1, _), (2, _)]) d36_3 rfl (by decide) rfl ?_
  exact lp 0 (Nat.zero_le _)
/-- what has been sawn lies in the mill -/
def SD (s : Stt) (R B S : Nat) (A : Mem) : Prop := A 40 7 = nI (swn s R B S).1 ∧ (∀ b, b < (swn s R B S).1 → A 44 b = nI ((swn s R B S).2.1 b) ∧ A 45 b = nI ((swn s R B S).2.2.1 b)) ∧ ∀ j, j < nw s → A 46 (kp s j) = nI ((swn s R B S).2.2.2 (kp s j))
theorem sp_35 {A : Mem} {Q : Int32 → Mem → Prop} {b m : Nat} {B : Int32} (hb : A 40 7 = nI b) (hb2 : b < 432) (hm : m < 2 ^ 31) (h0 : m ≤ b → Q (b2i false) A) (h1 : b < m → Q (b2i true) (mset (mset (mset A 44 b B) 45 b (nI 0)) 40 7 (nI (b + 1)))) : pm_P 35 0 [(0, .ref 40), (1, .int (nI m)), (2, .int B)] [] A Q := by
  refine pm_aload_n (i := 0) d35_0 rfl rfl ?_
  refine pm_getE (v := nI b) d35_1 lf_5_51 rfl rfl (by simp [mset_get, hb]) ?_
  refine pm_iload_n (i := 1) d35_4 rfl rfl ?_
  first | refine pm_icmp_geN (tgt := 18) d35_5 rfl (by omega) (by omega) (fun c_5 => ?_) (fun c_5 => ?_) | refine pm_icmp_ge (tgt := 18) d35_5 rfl (fun c_5 => ?_) (fun c_5 => ?_)
  · refine pm_iconst (v := b2i false) d35_18 (by decide) ?_
    exact pm_iret d35_19 rfl rfl (h0 c_5)
  · refine pm_aload_n (i := 0) d35_8 rfl rfl ?_
    refine pm_getE (v := nI b) d35_9 lf_5_51 rfl rfl (by simp [mset_get, hb]) ?_
    refine pm_sipush (v := nI 432) d35_12 (by decide) ?_
    first | refine pm_icmp_ltN (tgt := 20) d35_15 rfl (by omega) (by omega) (fun c_15 => ?_) (fun c_15 => ?_) | refine pm_icmp_lt (tgt := 20) d35_15 rfl (fun c_15 => ?_) (fun c_15 => ?_)
    · refine pm_aload_n (i := 0) d35_20 rfl rfl ?_
      refine pm_getR d35_21 lf_5_21 rfl rfl ?_
      refine pm_aload_n (i := 0) d35_24 rfl rfl ?_
      refine pm_getE (v := nI b) d35_25 lf_5_51 rfl rfl (by simp [mset_get, hb]) ?_
      refine pm_iload_n (i := 2) d35_28 rfl rfl ?_
      refine pm_iastN d35_29 rfl (by decide) (by omega) ?_
      refine pm_aload_n (i := 0) d35_30 rfl rfl ?_
      refine pm_getR d35_31 lf_5_24 rfl rfl ?_
      refine pm_aload_n (i := 0) d35_34 rfl rfl ?_
      refine pm_getE (v := nI b) d35_35 lf_5_51 rfl rfl (by simp [mset_get, hb]) ?_
      refine pm_iconst (v := nI 0) d35_38 (by decide) ?_
      refine pm_iastN d35_39 rfl (by decide) (by omega) ?_
      refine pm_aload_n (i := 0) d35_40 rfl rfl ?_
      refine pm_dup d35_41 rfl ?_
      refine pm_getE (v := nI b) d35_42 lf_5_51 rfl rfl (by simp [mset_get, hb]) ?_
      refine pm_iconst (v := nI 1) d35_45 (by decide) ?_
      first | refine pm_iaddN d35_46 ?_ | refine pm_iadd d35_46 ?_
      refine pm_putI d35_47 lp_5_51 rfl rfl ?_
      refine pm_iconst (v := nI 1) d35_50 (by decide) ?_
      refine pm_iret d35_51 rfl (by first | rfl | exact nar_b _) ?_
      exact h1 c_5
    · omega
/-- so far sawn: i pieces, the search stands at bar fr -/
def SW (s : Stt) (R B S m i fr : Nat) (A A1 : Mem) : Prop :=
  (∀ c, c ≠ 40 → c ≠ 44 → c ≠ 45 → c ≠ 46 → A1 c = A c) ∧ (∀ j, j ≠ 7 → A1 40 j = A 40 j) ∧
  A1 40 7 = nI (sawP B S (lnS s R) (kp s) i).1 ∧
  (∀ b, b < (sawP B S (lnS s R) (kp s) i).1 → A1 44 b = nI ((sawP B S (lnS s R) (kp s) i).2.1 b) ∧ A1 45 b = nI ((sawP B S (lnS s R) (kp s) i).2.2.1 b)) ∧
  (∀ j, j < i → A1 46 (kp s j) = nI ((sawP B S (lnS s R) (kp s) i).2.2.2 (kp s j))) ∧
  fr ≤ (sawP B S (lnS s R) (kp s) i).1 ∧ (0 < i → ∀ b, b < fr → (sawP B S (lnS s R) (kp s) i).2.1 b < lnS s R (kp s (i - 1))) ∧ (sawP B S (lnS s R) (kp s) i).1 ≤ m
theorem saw_mono {B S : Nat} {l P : Nat → Nat} (i : Nat) : ∀ d, (sawP B S l P i).1 ≤ (sawP B S l P (i + d)).1 := by
  intro d
  induction d with
  | zero => exact Nat.le_refl _
  | succ d ih =>
    refine Nat.le_trans ih ?_
    show _ ≤ (sawS B S (l (P (i + d))) (P (i + d)) (sawP B S l P (i + d))).1
    unfold sawS
    split
    · exact Nat.le_succ _
    · exact Nat.le_refl _
theorem saw_new {B S : Nat} {l P : Nat → Nat} {i : Nat} (h : ffit (sawP B S l P i).2.1 (l (P i)) (sawP B S l P i).1 = (sawP B S l P i).1) : sawP B S l P (i + 1) = ((sawP B S l P i).1 + 1, uN (sawP B S l P i).2.1 (sawP B S l P i).1 (B - l (P i) - S), uN (sawP B S l P i).2.2.1 (sawP B S l P i).1 1, uN (sawP B S l P i).2.2.2 (P i) (sawP B S l P i).1) := if_pos h
theorem saw_old {B S : Nat} {l P : Nat → Nat} {i : Nat} (h : ¬ ffit (sawP B S l P i).2.1 (l (P i)) (sawP B S l P i).1 = (sawP B S l P i).1) : sawP B S l P (i + 1) = ((sawP B S l P i).1, uN (sawP B S l P i).2.1 (ffit (sawP B S l P i).2.1 (l (P i)) (sawP B S l P i).1) ((sawP B S l P i).2.1 (ffit (sawP B S l P i).2.1 (l (P i)) (sawP B S l P i).1) - l (P i) - S), uN (sawP B S l P i).2.2.1 (ffit (sawP B S l P i).2.1 (l (P i)) (sawP B S l P i).1) ((sawP B S l P i).2.2.1 (ffit (sawP B S l P i).2.1 (l (P i)) (sawP B S l P i).1) + 1), uN (sawP B S l P i).2.2.2 (P i) (ffit (sawP B S l P i).2.1 (l (P i)) (sawP B S l P i).1)) := if_neg h
theorem SW_new {s : Stt} {R B S m i fr : Nat} {A A1 : Mem} (h : SW s R B S m i fr A A1) (hf : ffit (sawP B S (lnS s R) (kp s) i).2.1 (lnS s R (kp s i)) (sawP B S (lnS s R) (kp s) i).1 = (sawP B S (lnS s R) (kp s) i).1) (hm : (sawP B S (lnS s R) (kp s) i).1 < m) :
    SW s R B S m (i + 1) (sawP B S (lnS s R) (kp s) i).1 A (mset (mset (mset (mset (mset (mset A1 44 (sawP B S (lnS s R) (kp s) i).1 (nI B)) 45 (sawP B S (lnS s R) (kp s) i).1 (nI 0)) 40 7 (nI ((sawP B S (lnS s R) (kp s) i).1 + 1))) 44 (sawP B S (lnS s R) (kp s) i).1 (nI (B - lnS s R (kp s i) - S))) 45 (sawP B S (lnS s R) (kp s) i).1 (nI (0 + 1))) 46 (kp s i) (nI (sawP B S (lnS s R) (kp s) i).1)) := by
  obtain ⟨g1, g2, g3, g4, g5, g6, g7, g8⟩ := h
  unfold SW
  rw [saw_new hf]
  have hb9 : ∀ b, b < (sawP B S (lnS s R) (kp s) i).1 → (sawP B S (lnS s R) (kp s) i).2.1 b < lnS s R (kp s i) := fun b q => ffit_below (by rw [hf]; exact q)
  generalize sawP B S (lnS s R) (kp s) i = x at *
  dsimp only
  refine ⟨fun c q1 q2 q3 q4 => ?_, fun j hj => ?_, by simp [mset_get], fun b hb => ?_, fun j hj => ?_, by omega, fun _ b hb => ?_, by omega⟩
  · rw [mset_other q4, mset_other q3, mset_other q2, mset_other q1, mset_other q3, mset_other q2]; exact g1 c q1 q2 q3 q4
  · simp [mset_get, hj, g2 j hj]
  · by_cases e : b = x.1
    · rw [e, uN_at, uN_at]
      simp [mset_get]
    · have := g4 b (by omega)
      rw [uN_ne e, uN_ne e]
      simp [mset_get, e, this]
  · by_cases e : kp s j = kp s i
    · rw [e, uN_at]
      simp [mset_get]
    · have := g5 j (by
        rcases Nat.lt_or_ge j i with q | q
        · exact q
        · exact absurd (by rw [show j = i by omega]) e)
      rw [uN_ne e]
      simp [mset_get, e, this]
  · rw [uN_ne (by omega)]
    exact hb9 b hb
theorem SW_old {s : Stt} {R B S m i fr : Nat} {A A1 : Mem} (h : SW s R B S m i fr A A1) (hf : ¬ ffit (sawP B S (lnS s R) (kp s) i).2.1 (lnS s R (kp s i)) (sawP B S (lnS s R) (kp s) i).1 = (sawP B S (lnS s R) (kp s) i).1) {F : Nat} (hF : ffit (sawP B S (lnS s R) (kp s) i).2.1 (lnS s R (kp s i)) (sawP B S (lnS s R) (kp s) i).1 = F) :
    SW s R B S m (i + 1) F A (mset (mset (mset A1 44 F (nI ((sawP B S (lnS s R) (kp s) i).2.1 F - lnS s R (kp s i) - S))) 45 F (nI ((sawP B S (lnS s R) (kp s) i).2.2.1 F + 1))) 46 (kp s i) (nI F)) := by
  obtain ⟨g1, g2, g3, g4, g5, g6, g7, g8⟩ := h
  unfold SW
  rw [saw_old hf]
  have hb9 : ∀ b, b < F → (sawP B S (lnS s R) (kp s) i).2.1 b < lnS s R (kp s i) := fun b q => ffit_below (by rw [hF]; exact q)
  have hff := (ffit_fits hf).1
  rw [hF] at hff ⊢
  generalize sawP B S (lnS s R) (kp s) i = x at *
  dsimp only
  refine ⟨fun c q1 q2 q3 q4 => ?_, fun j hj => ?_, ?_, fun b hb => ?_, fun j hj => ?_, by omega, fun _ b hb => ?_, g8⟩
  · rw [mset_other q4, mset_other q3, mset_other q2]; exact g1 c q1 q2 q3 q4
  · simp [mset_get, g2 j hj]
  · simp [mset_get, g3]
  · by_cases e : b = F
    · rw [e, uN_at, uN_at]
      simp [mset_get]
    · have := g4 b (by omega)
      rw [uN_ne e, uN_ne e]
      simp [mset_get, e, this]
  · by_cases e : kp s j = kp s i
    · rw [e, uN_at]
      simp [mset_get]
    · have := g5 j (by
        rcases Nat.lt_or_ge j i with q | q
        · exact q
        · exact absurd (by rw [show j = i by omega]) e)
      rw [uN_ne e]
      simp [mset_get, e, this]
  · rw [uN_ne (by omega)]
    exact hb9 b hb
theorem sp_34 {s : Stt} {R B S m : Nat} {A : Mem} {Q : Int32 → Mem → Prop} (h1 : 1 ≤ sF s) (h6 : sF s ≤ 6) (hR : 10 ≤ R) (hR2 : R ≤ 2000) (hB : 1 ≤ B) (hB2 : B ≤ 20000) (hS : S ≤ 20) (hm : m ≤ 1000) (hM : ML s A) (hN : LN (sF s) R A) (hf : fits s R B)
    (h : ∀ A2 : Mem, (∀ c, c ≠ 40 → c ≠ 44 → c ≠ 45 → c ≠ 46 → A2 c = A c) → (∀ j, j ≠ 7 → A2 40 j = A 40 j) → ((swn s R B S).1 ≤ m → SD s R B S A2) → Q (b2i (decide ((swn s R B S).1 ≤ m))) A2) : pm_P 34 0 [(0, .ref 40), (1, .int (nI m)), (2, .int (nI B)), (3, .int (nI S))] [] A Q := by
  have hb := bd_n h1 h6
  have hw := nw_le s
  have hl9 := fits_ok h1 h6 hR hR2 hf
  have lp : ∀ i, i ≤ nw s → ∀ (fr : Nat) (A1 : Mem), SW s R B S m i fr A A1 → pm_P 34 11 [(0, .ref 40), (1, .int (nI m)), (2, .int (nI B)), (3, .int (nI S)), (4, .int (nI fr)), (5, .int (nI i))] [] A1 Q := by
    refine up_ind (fun i hi9 ih fr A1 hW => ?_)
    have hinv := saw_inv (S := S) (n := nw s) hB hl9 i hi9
    have hWc := hW
    obtain ⟨g1, g2, g3, g4, g5, g6, g7, g8⟩ := hWc
    have hA40 : A1 40 2 = nI (nw s) := by rw [g2 2 (by decide)]; exact hM.1
    by_cases hin : i < nw s
    · have hl := hl9 i hin
      have hkk := (kp_ok h1 h6 hin).1
      have hkq := (bd_s h1 h6 hkk).2.2.1
      have e41 : A1 41 i = nI (kp s i) := by rw [g1 41 (by decide) (by decide) (by decide) (by decide)]; exact (hM.2 i hin).1
      have e42 : ∀ j, j ≤ i → A1 42 j = nI (ko (sF s) (kp s j)) := fun j hj => by rw [g1 42 (by decide) (by decide) (by decide) (by decide)]; exact (hM.2 j (by omega)).2
      have e43 : A1 43 (ko (sF s) (kp s i)) = nI (lnS s R (kp s i)) := by rw [g1 43 (by decide) (by decide) (by decide) (by decide)]; exact hN _ hkq
      have k108 : ∀ (A2 : Mem) (F V pv : Nat), F < 432 → V ≤ 20000 → lnS s R (kp s i) ≤ V → pv < 1000 → A2 44 F = nI V → A2 45 F = nI pv → A2 41 i = nI (kp s i) → pm_P 34 11 [(0, .ref 40), (1, .int (nI m)), (2, .int (nI B)), (3, .int (nI S)), (4, .int (nI F)), (5, .int (nI (i + 1)))] [] (mset (mset (mset A2 44 F (nI (V - lnS s R (kp s i) - S))) 45 F (nI (pv + 1))) 46 (kp s i) (nI F)) Q → pm_P 34 108 [(0, .ref 40), (1, .int (nI m)), (2, .int (nI B)), (3, .int (nI S)), (4, .int (nI F)), (5, .int (nI i)), (6, .int (nI (lnS s R (kp s i))))] [] A2 Q := by
        intro A2 F V pv hF hV hlV hpv q44 q45 q41 hk
        refine pm_aload_n (i := 0) d34_108 rfl rfl ?_
        refine pm_getR d34_109 lf_5_21 rfl rfl ?_
        refine pm_iload d34_112 rfl ?_
        refine pm_iconst (v := nI 0) d34_114 (by decide) ?_
        refine pm_aload_n (i := 0) d34_115 rfl rfl ?_
        refine pm_getR d34_116 lf_5_21 rfl rfl ?_
        refine pm_iload d34_119 rfl ?_
        refine pm_ialdN d34_121 rfl (by decide) (by omega) ?_
        rw [q44]
        refine pm_iload d34_122 rfl ?_
        first | refine pm_isubN d34_124 (by omega) ?_ | refine pm_isub d34_124 ?_
        refine pm_iload_n (i := 3) d34_125 rfl rfl ?_
        refine pm_isub d34_126 ?_
        refine pm_mmax d34_127 lm_5_58 (Nat.le_of_ble_eq_true rfl) (Nat.le_of_ble_eq_true rfl) ?_
        rw [pk_max0 (by omega) (by omega)]
        refine pm_iastN d34_130 rfl (by decide) (by omega) ?_
        refine pm_aload_n (i := 0) d34_131 rfl rfl ?_
        refine pm_getR d34_132 lf_5_24 rfl rfl ?_
        refine pm_iload d34_135 rfl ?_
        refine pm_dup2 d34_137 rfl rfl ?_
        refine pm_ialdN d34_138 rfl (by decide) (by omega) ?_
        rw [show (mset A2 44 F (nI (V - lnS s R (kp s i) - S))) 45 F = nI pv by rw [mset_other (by decide)]; exact q45]
        refine pm_iconst (v := nI 1) d34_139 (by decide) ?_
        first | refine pm_iaddN d34_140 ?_ | refine pm_iadd d34_140 ?_
        refine pm_iastN d34_141 rfl (by decide) (by omega) ?_
        refine pm_aload_n (i := 0) d34_142 rfl rfl ?_
        refine pm_getR d34_143 lf_5_27 rfl rfl ?_
        refine pm_aload_n (i := 0) d34_146 rfl rfl ?_
        refine pm_getR d34_147 lf_5_9 rfl rfl ?_
        refine pm_iload d34_150 rfl ?_
        refine pm_ialdN d34_152 rfl (by decide) (by omega) ?_
        rw [show (mset (mset A2 44 F (nI (V - lnS s R (kp s i) - S))) 45 F (nI (pv + 1))) 41 i = nI (kp s i) by rw [mset_other (by decide), mset_other (by decide)]; exact q41]
        refine pm_iload d34_153 rfl ?_
        refine pm_iastN d34_155 rfl (by decide) (by omega) ?_
        first | refine pm_iincN 1 (L2 := [(0, _), (1, _), (2, _), (3, _), (4, _), (5, _), (6, _)]) d34_156 rfl (by decide) rfl ?_ | refine pm_iinc (L2 := [(0, _), (1, _), (2, _), (3, _), (4, _), (5, _), (6, _)]) d34_156 rfl rfl (by decide) rfl ?_
        refine pm_goto (tgt := 11) d34_159 rfl ?_
        refine pm_pick [0, 1, 2, 3, 4, 5] (L2 := [(0, _), (1, _), (2, _), (3, _), (4, _), (5, _)]) rfl ?_
        exact hk
      have k88 : pm_P 34 88 [(0, .ref 40), (1, .int (nI m)), (2, .int (nI B)), (3, .int (nI S)), (4, .int (nI (ffit (sawP B S (lnS s R) (kp s) i).2.1 (lnS s R (kp s i)) (sawP B S (lnS s R) (kp s) i).1))), (5, .int (nI i)), (6, .int (nI (lnS s R (kp s i))))] [] A1 Q := by
        have hle := ffit_le (sawP B S (lnS s R) (kp s) i).2.1 (lnS s R (kp s i)) (sawP B S (lnS s R) (kp s) i).1
        generalize hF : ffit (sawP B S (lnS s R) (kp s) i).2.1 (lnS s R (kp s i)) (sawP B S (lnS s R) (kp s) i).1 = F at *
        refine pm_iload d34_88 rfl ?_
        refine pm_aload_n (i := 0) d34_90 rfl rfl ?_
        refine pm_getE d34_91 lf_5_51 rfl rfl (g3) ?_
        first | refine pm_icmp_neN (tgt := 108) d34_94 rfl (by omega) (by omega) (fun c_94 => ?_) (fun c_94 => ?_) | refine pm_icmp_ne (tgt := 108) d34_94 rfl (fun c_94 => ?_) (fun c_94 => ?_)
        · have hne : ¬ ffit (sawP B S (lnS s R) (kp s) i).2.1 (lnS s R (kp s i)) (sawP B S (lnS s R) (kp s) i).1 = (sawP B S (lnS s R) (kp s) i).1 := by rw [hF]; exact c_94
          have hff := ffit_fits hne
          rw [hF] at hff
          have hi2 := hinv.2.1 F hff.1
          refine k108 A1 F _ _ (by omega) (by omega) hff.2 (by omega) (g4 F hff.1).1 (g4 F hff.1).2 e41 ?_
          exact ih hin F _ (SW_old hW hne hF)
        · refine pm_aload_n (i := 0) d34_97 rfl rfl ?_
          refine pm_iload_n (i := 1) d34_98 rfl rfl ?_
          refine pm_iload_n (i := 2) d34_99 rfl rfl ?_
          refine pm_callV (k2 := 35) (As := [_, _]) d34_100 lk_5_54 ok_35 rfl rfl rfl (Nat.le_of_ble_eq_true rfl) rfl rfl rfl rfl rfl ⟨Nat.le_of_ble_eq_true rfl, Nat.le_of_ble_eq_true rfl⟩ (Nat.le_of_ble_eq_true rfl) ?_
          refine sp_35 (m := m) g3 (by omega) (by omega) (fun q => ?_) (fun q => ?_)
          · refine pm_if_neB (tgt := 108) d34_103 rfl (fun c => by cases c) (fun c => ?_)
            refine pm_iconst (v := nI 0) d34_106 (by decide) ?_
            refine pm_iret d34_107 rfl rfl ?_
            have hmo := saw_mono (B := B) (S := S) (l := lnS s R) (P := kp s) (i + 1) (nw s - (i + 1))
            rw [show i + 1 + (nw s - (i + 1)) = nw s by omega, saw_new (by rw [hF]; exact c_94)] at hmo
            dsimp only at hmo
            have hgt : ¬ (swn s R B S).1 ≤ m := by unfold swn; omega
            have := h A1 g1 g2 (fun q2 => absurd q2 hgt)
            rw [decide_eq_false hgt] at this
            exact this
          first | refine pm_if_neB (tgt := 108) d34_103 rfl (fun c_103 => ?_) (fun c_103 => ?_) | refine pm_if_neN (tgt := 108) d34_103 rfl (by omega) (fun c_103 => ?_) (fun c_103 => ?_) | refine pm_if_ne (tgt := 108) d34_103 rfl (fun c_103 => ?_) (fun c_103 => ?_)
          · have hF2 : ffit (sawP B S (lnS s R) (kp s) i).2.1 (lnS s R (kp s i)) (sawP B S (lnS s R) (kp s) i).1 = (sawP B S (lnS s R) (kp s) i).1 := by rw [hF]; exact c_94
            rw [c_94]
            refine k108 _ _ B 0 (by omega) hB2 hl.2 (by omega) (by simp [mset_get]) (by simp [mset_get]) (by simp only [mset_get]; simp [e41]) ?_
            exact ih hin _ _ (SW_new hW hF2 q)
          · cases c_103
      have k61 : ∀ fr2, fr2 ≤ (sawP B S (lnS s R) (kp s) i).1 → (∀ b, b < fr2 → (sawP B S (lnS s R) (kp s) i).2.1 b < lnS s R (kp s i)) → pm_P 34 61 [(0, .ref 40), (1, .int (nI m)), (2, .int (nI B)), (3, .int (nI S)), (4, .int (nI fr2)), (5, .int (nI i)), (6, .int (nI (lnS s R (kp s i))))] [] A1 Q := by
        refine up_ind (fun fr2 hf2 ih2 hbl => ?_)
        refine pm_iload d34_61 rfl ?_
        refine pm_aload_n (i := 0) d34_63 rfl rfl ?_
        refine pm_getE d34_64 lf_5_51 rfl rfl (g3) ?_
        first | refine pm_icmp_geN (tgt := 88) d34_67 rfl (by omega) (by omega) (fun c_67 => ?_) (fun c_67 => ?_) | refine pm_icmp_ge (tgt := 88) d34_67 rfl (fun c_67 => ?_) (fun c_67 => ?_)
        · have e : ffit (sawP B S (lnS s R) (kp s) i).2.1 (lnS s R (kp s i)) (sawP B S (lnS s R) (kp s) i).1 = fr2 := by
            rw [show fr2 = (sawP B S (lnS s R) (kp s) i).1 by omega] at hbl ⊢
            exact ffit_none hbl
          rw [← e]
          exact k88
        · have hi2 := hinv.2.1 fr2 c_67 
          refine pm_aload_n (i := 0) d34_70 rfl rfl ?_
          refine pm_getR d34_71 lf_5_21 rfl rfl ?_
          refine pm_iload d34_74 rfl ?_
          refine pm_ialdN d34_76 rfl (by decide) (by omega) ?_
          rw [(g4 fr2 c_67).1]
          refine pm_iload d34_77 rfl ?_
          first | refine pm_icmp_geN (tgt := 88) d34_79 rfl (by omega) (by omega) (fun c_79 => ?_) (fun c_79 => ?_) | refine pm_icmp_ge (tgt := 88) d34_79 rfl (fun c_79 => ?_) (fun c_79 => ?_)
          · rw [← ffit_here c_67 hbl c_79]
            exact k88
          · first | refine pm_iincN 1 (L2 := [(0, _), (1, _), (2, _), (3, _), (4, _), (5, _), (6, _)]) d34_82 rfl (by decide) rfl ?_ | refine pm_iinc (L2 := [(0, _), (1, _), (2, _), (3, _), (4, _), (5, _), (6, _)]) d34_82 rfl rfl (by decide) rfl ?_
            refine pm_goto (tgt := 61) d34_85 rfl ?_
            exact ih2 c_67 (fun b hb9 => by
              rcases Nat.lt_or_ge b fr2 with q | q
              · exact hbl b q
              · rw [show b = fr2 by omega]; exact c_79)
      refine pm_iload d34_11 rfl ?_
      refine pm_aload_n (i := 0) d34_13 rfl rfl ?_
      refine pm_getE d34_14 lf_5_30 rfl rfl (hA40) ?_
      first | refine pm_icmp_geN (tgt := 162) d34_17 rfl (by omega) (by omega) (fun c_17 => ?_) (fun c_17 => ?_) | refine pm_icmp_ge (tgt := 162) d34_17 rfl (fun c_17 => ?_) (fun c_17 => ?_)
      · omega
      · refine pm_aload_n (i := 0) d34_20 rfl rfl ?_
        refine pm_getR d34_21 lf_5_18 rfl rfl ?_
        refine pm_aload_n (i := 0) d34_24 rfl rfl ?_
        refine pm_getR d34_25 lf_5_15 rfl rfl ?_
        refine pm_iload d34_28 rfl ?_
        refine pm_ialdN d34_30 rfl (by decide) (by omega) ?_
        rw [e42 i (Nat.le_refl i)]
        refine pm_ialdN d34_31 rfl (by decide) (by omega) ?_
        rw [e43]
        refine pm_istore (L2 := [(0, _), (1, _), (2, _), (3, _), (4, _), (5, _), (6, _)]) d34_32 (by decide) rfl ?_
        refine pm_iload d34_34 rfl ?_
        first | refine pm_if_leN (tgt := 61) d34_36 rfl (by omega) (fun c_36 => ?_) (fun c_36 => ?_) | refine pm_if_le (tgt := 61) d34_36 rfl (fun c_36 => ?_) (fun c_36 => ?_)
        · rw [c_36] at g6
          have : fr = 0 := by have : (sawP B S (lnS s R) (kp s) 0).1 = 0 := rfl; omega
          exact k61 fr (by omega) (fun b hb9 => by omega)
        · have hq1 : ko (sF s) (kp s (i - 1)) < nk (sF s) := (bd_s h1 h6 (kp_ok h1 h6 (i := i - 1) (by omega)).1).2.2.1 
          refine pm_aload_n (i := 0) d34_39 rfl rfl ?_
          refine pm_getR d34_40 lf_5_15 rfl rfl ?_
          refine pm_iload d34_43 rfl ?_
          refine pm_ialdN d34_45 rfl (by decide) (by omega) ?_
          rw [e42 i (Nat.le_refl i)]
          refine pm_aload_n (i := 0) d34_46 rfl rfl ?_
          refine pm_getR d34_47 lf_5_15 rfl rfl ?_
          refine pm_iload d34_50 rfl ?_
          refine pm_iconst (v := nI 1) d34_52 (by decide) ?_
          first | refine pm_isubN d34_53 (by omega) ?_ | refine pm_isub d34_53 ?_
          refine pm_ialdN d34_54 rfl (by decide) (by omega) ?_
          rw [e42 (i - 1) (by omega)]
          first | refine pm_icmp_eqN (tgt := 61) d34_55 rfl (by omega) (by omega) (fun c_55 => ?_) (fun c_55 => ?_) | refine pm_icmp_eq (tgt := 61) d34_55 rfl (fun c_55 => ?_) (fun c_55 => ?_)
          · have e : lnS s R (kp s (i - 1)) = lnS s R (kp s i) := by unfold lnS; rw [c_55]
            rw [e] at g7
            exact k61 fr g6 (g7 c_36)
          · refine pm_iconst (v := nI 0) d34_58 (by decide) ?_
            refine pm_istore (L2 := [(0, _), (1, _), (2, _), (3, _), (4, _), (5, _), (6, _)]) d34_59 (by decide) rfl ?_
            exact k61 0 (Nat.zero_le _) (fun b hb9 => absurd hb9 (Nat.not_lt_zero b))
    · have e : i = nw s := by omega
      refine pm_iload d34_11 rfl ?_
      refine pm_aload_n (i := 0) d34_13 rfl rfl ?_
      refine pm_getE d34_14 lf_5_30 rfl rfl (hA40) ?_
      first | refine pm_icmp_geN (tgt := 162) d34_17 rfl (by omega) (by omega) (fun c_17 => ?_) (fun c_17 => ?_) | refine pm_icmp_ge (tgt := 162) d34_17 rfl (fun c_17 => ?_) (fun c_17 => ?_)
      · refine pm_iconst (v := nI 1) d34_162 (by decide) ?_
        refine pm_iret d34_163 rfl (by first | rfl | exact nar_b _) ?_
        subst e
        have hle : (swn s R B S).1 ≤ m := g8
        have := h A1 g1 g2 (fun _ => ⟨g3, g4, g5⟩)
        rw [decide_eq_true hle] at this
        exact this
      · omega
  refine pm_aload_n (i := 0) d34_0 rfl rfl ?_
  refine pm_iconst (v := nI 0) d34_1 (by decide) ?_
  refine pm_putI d34_2 lp_5_51 rfl rfl ?_
  refine pm_iconst (v := nI 0) d34_5 (by decide) ?_
  refine pm_istore (L2 := [(0, _), (1, _), (2, _), (3, _), (4, _)]) d34_6 (by decide) rfl ?_
  refine pm_iconst (v := nI 0) d34_8 (by decide) ?_
  refine pm_istore (L2 := [(0, _), (1, _), (2, _), (3, _), (4, _), (5, _)]) d34_9 (by decide) rfl ?_
  refine lp 0 (Nat.zero_le _) 0 _ ⟨fun c q1 q2 q3 q4 => mset_other q1, fun j hj => ?_, ?_, fun b hb => absurd hb (Nat.not_lt_zero b), fun j hj => absurd hj (Nat.not_lt_zero j), Nat.le_refl 0, fun q => absurd q (Nat.lt_irrefl 0), Nat.zero_le _⟩
  · simp [mset_get, hj]
  · simp [mset_get, sawP, saw0]
