/-! HOW THE CLASS BUILDS ITS KINDS (the rest) -/
theorem nI_dec (n : Nat) : nI (n + 1) + Int32.ofInt (-1) = nI n := by
  rw [← nI_add, Int32.add_assoc, show nI 1 + Int32.ofInt (-1) = 0 by decide, Int32.add_zero]
theorem sp_21 {f k : Nat} {A : Mem} {Q : Int32 → Mem → Prop} (h1 : 1 ≤ f) (h6 : f ≤ 6) (hk : k < ns f) (hK : KB f k A) (h : ∀ A2 : Mem, (∀ c, c ≠ 11 → c ≠ 16 → c ≠ 17 → A2 c = A c) → (∀ j, j ≠ 7 → A2 11 j = A 11 j) → KB f (k + 1) A2 → Q 0 A2) : pm_P 21 0 [(0, .ref 11), (1, .int (nI (kn f k))), (2, .int (nI (kd f k)))] [] A Q := by
  have hb := bd_n h1 h6
  have hko := (bd_s h1 h6 hk).2.2.1
  obtain ⟨-, -, p1, p2⟩ := bd_pr h1 h6 hk
  have hcl := cnt_le (prs9 f k) (nk f)
  have hcm := cnt_mono (p := prs9 f k) (Nat.le_of_lt hko)
  cases hp : prs9 f k (ko f k) with
  | true =>
    have hlt := cnt_lt hp hko
    obtain ⟨e1, e2⟩ := hK.2 _ hko hp
    have ec := (bd_cm h1 h6 hk hko).2.1 rfl
    refine pm_aload_n (i := 0) d21_0 rfl rfl ?_
    refine pm_iload_n (i := 1) d21_1 rfl rfl ?_
    refine pm_iload_n (i := 2) d21_2 rfl rfl ?_
    refine pm_callV (k2 := 19) (As := [_, _]) d21_3 lk_3_56 ok_19 rfl rfl rfl (Nat.le_of_ble_eq_true rfl) rfl rfl rfl rfl rfl ⟨Nat.le_of_ble_eq_true rfl, Nat.le_of_ble_eq_true rfl⟩ (Nat.le_of_ble_eq_true rfl) ?_
    refine sp_19 h1 h6 hk hK ?_
    refine pm_istore_n (i := 3) (L2 := [(0, _), (1, _), (2, _), (3, _)]) d21_6 rfl (by decide) rfl ?_
    refine pm_iload_n (i := 3) d21_7 rfl rfl ?_
    refine pm_aload_n (i := 0) d21_8 rfl rfl ?_
    refine pm_getE d21_9 lf_3_30 rfl rfl (hK.1) ?_
    first | refine pm_icmp_geN (tgt := 29) d21_12 rfl (by omega) (by omega) (fun c_12 => ?_) (fun c_12 => ?_) | refine pm_icmp_ge (tgt := 29) d21_12 rfl (fun c_12 => ?_) (fun c_12 => ?_)
    · omega
    · refine pm_aload_n (i := 0) d21_15 rfl rfl ?_
      refine pm_iload_n (i := 1) d21_16 rfl rfl ?_
      refine pm_iload_n (i := 2) d21_17 rfl rfl ?_
      refine pm_iload_n (i := 3) d21_18 rfl rfl ?_
      refine pm_callV (k2 := 20) (As := [_, _, _]) d21_19 lk_3_62 ok_20 rfl rfl rfl (Nat.le_of_ble_eq_true rfl) rfl rfl rfl rfl rfl ⟨Nat.le_of_ble_eq_true rfl, Nat.le_of_ble_eq_true rfl⟩ (Nat.le_of_ble_eq_true rfl) ?_
      refine sp_20 h1 h6 hko p1 p2 (by omega) e1 e2 ?_
      rw [show icmpN (kn f k * kn f k * qd f (ko f k)) (qn f (ko f k) * qn f (ko f k) * kd f k) = nI 0 from (by unfold icmpN; rw [if_neg (by omega), if_pos ec]; rfl)]
      first | refine pm_if_neB (tgt := 29) d21_22 rfl (fun c_22 => ?_) (fun c_22 => ?_) | refine pm_if_neN (tgt := 29) d21_22 rfl (by omega) (fun c_22 => ?_) (fun c_22 => ?_) | refine pm_if_ne (tgt := 29) d21_22 rfl (fun c_22 => ?_) (fun c_22 => ?_)
      · omega
      · refine pm_iconst (v := nI 1) d21_25 (by decide) ?_
        refine pm_goto (tgt := 30) d21_26 rfl ?_
        refine pm_istore (L2 := [(0, _), (1, _), (2, _), (3, _), (4, _)]) d21_30 (by decide) rfl ?_
        refine pm_iload d21_32 rfl ?_
        first | refine pm_if_neB (tgt := 46) d21_34 rfl (fun c_34 => ?_) (fun c_34 => ?_) | refine pm_if_neN (tgt := 46) d21_34 rfl (by omega) (fun c_34 => ?_) (fun c_34 => ?_) | refine pm_if_ne (tgt := 46) d21_34 rfl (fun c_34 => ?_) (fun c_34 => ?_)
        · refine pm_vret d21_46 rfl ?_
          exact h A (fun _ _ _ _ => rfl) (fun _ _ => rfl) (KB_known h1 h6 hk hp hK)
        · omega
  | false =>
    have k53 : ∀ m, cnt (prs9 f k) (ko f k) + m ≤ cnt (prs9 f k) (nk f) → ∀ A1 : Mem, (∀ c, c ≠ 16 → c ≠ 17 → A1 c = A c) → (∀ p, p ≤ cnt (prs9 f k) (ko f k) + m → A1 16 p = A 16 p ∧ A1 17 p = A 17 p) → (∀ p, cnt (prs9 f k) (ko f k) + m ≤ p → p < cnt (prs9 f k) (nk f) → A1 16 (p + 1) = A 16 p ∧ A1 17 (p + 1) = A 17 p) → pm_P 21 53 [(0, .ref 11), (1, .int (nI (kn f k))), (2, .int (nI (kd f k))), (3, .int (nI (cnt (prs9 f k) (ko f k)))), (4, .int (nI 0)), (5, .int (nI (cnt (prs9 f k) (ko f k) + m)))] [] A1 Q := by
      intro m
      induction m with
      | zero =>
        intro hm A1 g1 g2 g3
        refine pm_iload d21_53 rfl ?_
        refine pm_iload_n (i := 3) d21_55 rfl rfl ?_
        first | refine pm_icmp_leN (tgt := 97) d21_56 rfl (by omega) (by omega) (fun c_56 => ?_) (fun c_56 => ?_) | refine pm_icmp_le (tgt := 97) d21_56 rfl (fun c_56 => ?_) (fun c_56 => ?_)
        · refine pm_aload_n (i := 0) d21_97 rfl rfl ?_
          refine pm_getR d21_98 lf_3_24 rfl rfl ?_
          refine pm_iload_n (i := 3) d21_101 rfl rfl ?_
          refine pm_iload_n (i := 1) d21_102 rfl rfl ?_
          refine pm_iastN d21_103 rfl (by decide) (by omega) ?_
          refine pm_aload_n (i := 0) d21_104 rfl rfl ?_
          refine pm_getR d21_105 lf_3_27 rfl rfl ?_
          refine pm_iload_n (i := 3) d21_108 rfl rfl ?_
          refine pm_iload_n (i := 2) d21_109 rfl rfl ?_
          refine pm_iastN d21_110 rfl (by decide) (by omega) ?_
          refine pm_aload_n (i := 0) d21_111 rfl rfl ?_
          refine pm_dup d21_112 rfl ?_
          refine pm_getE (v := nI (cnt (prs9 f k) (nk f))) d21_113 lf_3_30 rfl rfl (by rw [mset_other (by decide), mset_other (by decide), g1 11 (by decide) (by decide), hK.1]) ?_
          refine pm_iconst (v := nI 1) d21_116 (by decide) ?_
          first | refine pm_iaddN d21_117 ?_ | refine pm_iadd d21_117 ?_
          refine pm_putI d21_118 lp_3_30 rfl rfl ?_
          refine pm_vret d21_121 rfl ?_
          refine h _ (fun c q1 q2 q3 => by rw [mset_other q1, mset_other q3, mset_other q2]; exact g1 c q2 q3) (fun j hj => ?_) ?_
          · rw [mset_ne hj, mset_other (by decide), mset_other (by decide), g1 11 (by decide) (by decide)]
          · refine KB_new h1 h6 hk hp hK (by rw [mset_at]) ⟨?_, ?_⟩ (fun p hpp => ?_) (fun p hpp hp2 => ?_)
            · simp [mset_get]
            · simp [mset_get]
            · have := g2 p (by omega)
              have n1 : ¬ p = cnt (prs9 f k) (ko f k) := by omega
              simp [mset_get, n1, this]
            · have := g3 p (by omega) hp2
              have n1 : ¬ p + 1 = cnt (prs9 f k) (ko f k) := by omega
              simp [mset_get, n1, this]
        · omega
      | succ m ih =>
        intro hm A1 g1 g2 g3
        have x1 := g2 (cnt (prs9 f k) (ko f k) + m) (by omega)
        refine pm_iload d21_53 rfl ?_
        refine pm_iload_n (i := 3) d21_55 rfl rfl ?_
        first | refine pm_icmp_leN (tgt := 97) d21_56 rfl (by omega) (by omega) (fun c_56 => ?_) (fun c_56 => ?_) | refine pm_icmp_le (tgt := 97) d21_56 rfl (fun c_56 => ?_) (fun c_56 => ?_)
        · omega
        · refine pm_aload_n (i := 0) d21_59 rfl rfl ?_
          refine pm_getR d21_60 lf_3_24 rfl rfl ?_
          refine pm_iload d21_63 rfl ?_
          refine pm_aload_n (i := 0) d21_65 rfl rfl ?_
          refine pm_getR d21_66 lf_3_24 rfl rfl ?_
          refine pm_iload d21_69 rfl ?_
          refine pm_iconst (v := nI 1) d21_71 (by decide) ?_
          first | refine pm_isubN d21_72 (by omega) ?_ | refine pm_isub d21_72 ?_
          refine pm_ialdN d21_73 rfl (by decide) (by omega) ?_
          rw [show cnt (prs9 f k) (ko f k) + (m + 1) - 1 = cnt (prs9 f k) (ko f k) + m by omega, x1.1]
          refine pm_iastN d21_74 rfl (by decide) (by omega) ?_
          refine pm_aload_n (i := 0) d21_75 rfl rfl ?_
          refine pm_getR d21_76 lf_3_27 rfl rfl ?_
          refine pm_iload d21_79 rfl ?_
          refine pm_aload_n (i := 0) d21_81 rfl rfl ?_
          refine pm_getR d21_82 lf_3_27 rfl rfl ?_
          refine pm_iload d21_85 rfl ?_
          refine pm_iconst (v := nI 1) d21_87 (by decide) ?_
          first | refine pm_isubN d21_88 (by omega) ?_ | refine pm_isub d21_88 ?_
          refine pm_ialdN d21_89 rfl (by decide) (by omega) ?_
          rw [show cnt (prs9 f k) (ko f k) + (m + 1) - 1 = cnt (prs9 f k) (ko f k) + m by omega, mset_other (by decide), x1.2]
          refine pm_iastN d21_90 rfl (by decide) (by omega) ?_
          refine pm_iinc (L2 := [(0, _), (1, _), (2, _), (3, _), (4, _), (5, _)]) (v := nI (cnt (prs9 f k) (ko f k) + m)) d21_91 rfl (nI_dec _) (by decide) rfl ?_
          refine pm_goto (tgt := 53) d21_94 rfl ?_
          refine ih (by omega) _ (fun c q1 q2 => by rw [mset_other q2, mset_other q1]; exact g1 c q1 q2) (fun p hpp => ?_) (fun p hpp hp2 => ?_)
          · have := g2 p (by omega)
            have n1 : ¬ p = cnt (prs9 f k) (ko f k) + (m + 1) := by omega
            simp only [mset_get]
            simp [n1, this]
          · by_cases e : p = cnt (prs9 f k) (ko f k) + m
            · rw [e, show cnt (prs9 f k) (ko f k) + m + 1 = cnt (prs9 f k) (ko f k) + (m + 1) by omega]
              simp [mset_get]
            · have := g3 p (by omega) hp2
              have n1 : ¬ p + 1 = cnt (prs9 f k) (ko f k) + (m + 1) := by omega
              simp only [mset_get]
              simp [n1, this]
    have k47 : pm_P 21 47 [(0, .ref 11), (1, .int (nI (kn f k))), (2, .int (nI (kd f k))), (3, .int (nI (cnt (prs9 f k) (ko f k)))), (4, .int (nI 0))] [] A Q := by
      refine pm_aload_n (i := 0) d21_47 rfl rfl ?_
      refine pm_getE d21_48 lf_3_30 rfl rfl (hK.1) ?_
      refine pm_istore (L2 := [(0, _), (1, _), (2, _), (3, _), (4, _), (5, _)]) d21_51 (by decide) rfl ?_
      have := k53 (cnt (prs9 f k) (nk f) - cnt (prs9 f k) (ko f k)) (by omega) A (fun _ _ _ => rfl) (fun _ _ => ⟨rfl, rfl⟩) (fun p hp1 hp2 => by omega)
      rw [show cnt (prs9 f k) (ko f k) + (cnt (prs9 f k) (nk f) - cnt (prs9 f k) (ko f k)) = cnt (prs9 f k) (nk f) by omega] at this
      exact this
    refine pm_aload_n (i := 0) d21_0 rfl rfl ?_
    refine pm_iload_n (i := 1) d21_1 rfl rfl ?_
    refine pm_iload_n (i := 2) d21_2 rfl rfl ?_
    refine pm_callV (k2 := 19) (As := [_, _]) d21_3 lk_3_56 ok_19 rfl rfl rfl (Nat.le_of_ble_eq_true rfl) rfl rfl rfl rfl rfl ⟨Nat.le_of_ble_eq_true rfl, Nat.le_of_ble_eq_true rfl⟩ (Nat.le_of_ble_eq_true rfl) ?_
    refine sp_19 h1 h6 hk hK ?_
    refine pm_istore_n (i := 3) (L2 := [(0, _), (1, _), (2, _), (3, _)]) d21_6 rfl (by decide) rfl ?_
    refine pm_iload_n (i := 3) d21_7 rfl rfl ?_
    refine pm_aload_n (i := 0) d21_8 rfl rfl ?_
    refine pm_getE d21_9 lf_3_30 rfl rfl (hK.1) ?_
    first | refine pm_icmp_geN (tgt := 29) d21_12 rfl (by omega) (by omega) (fun c_12 => ?_) (fun c_12 => ?_) | refine pm_icmp_ge (tgt := 29) d21_12 rfl (fun c_12 => ?_) (fun c_12 => ?_)
    · refine pm_iconst (v := nI 0) d21_29 (by decide) ?_
      refine pm_istore (L2 := [(0, _), (1, _), (2, _), (3, _), (4, _)]) d21_30 (by decide) rfl ?_
      refine pm_iload d21_32 rfl ?_
      first | refine pm_if_neB (tgt := 46) d21_34 rfl (fun c_34 => ?_) (fun c_34 => ?_) | refine pm_if_neN (tgt := 46) d21_34 rfl (by omega) (fun c_34 => ?_) (fun c_34 => ?_) | refine pm_if_ne (tgt := 46) d21_34 rfl (fun c_34 => ?_) (fun c_34 => ?_)
      · omega
      · refine pm_aload_n (i := 0) d21_37 rfl rfl ?_
        refine pm_getE d21_38 lf_3_30 rfl rfl (hK.1) ?_
        refine pm_bipush (v := nI 16) d21_41 (by decide) ?_
        first | refine pm_icmp_ltN (tgt := 47) d21_43 rfl (by omega) (by omega) (fun c_43 => ?_) (fun c_43 => ?_) | refine pm_icmp_lt (tgt := 47) d21_43 rfl (fun c_43 => ?_) (fun c_43 => ?_)
        · exact k47
        · omega
    · obtain ⟨q, a1, a2, a3, a4, a5⟩ := KB_at hK c_12
      obtain ⟨c1, c2, c3⟩ := bd_cm h1 h6 hk a1
      have hne : ¬ ko f k = q := fun g => by rw [g, a2] at hp; cases hp 
      refine pm_aload_n (i := 0) d21_15 rfl rfl ?_
      refine pm_iload_n (i := 1) d21_16 rfl rfl ?_
      refine pm_iload_n (i := 2) d21_17 rfl rfl ?_
      refine pm_iload_n (i := 3) d21_18 rfl rfl ?_
      refine pm_callV (k2 := 20) (As := [_, _, _]) d21_19 lk_3_62 ok_20 rfl rfl rfl (Nat.le_of_ble_eq_true rfl) rfl rfl rfl rfl rfl ⟨Nat.le_of_ble_eq_true rfl, Nat.le_of_ble_eq_true rfl⟩ (Nat.le_of_ble_eq_true rfl) ?_
      refine sp_20 h1 h6 a1 p1 p2 (by omega) a4 a5 ?_
      refine pm_if_ne (tgt := 29) d21_22 rfl (fun c_22 => ?_) (fun c_22 => ?_)
      · refine pm_iconst (v := nI 0) d21_29 (by decide) ?_
        refine pm_istore (L2 := [(0, _), (1, _), (2, _), (3, _), (4, _)]) d21_30 (by decide) rfl ?_
        refine pm_iload d21_32 rfl ?_
        first | refine pm_if_neB (tgt := 46) d21_34 rfl (fun c_34 => ?_) (fun c_34 => ?_) | refine pm_if_neN (tgt := 46) d21_34 rfl (by omega) (fun c_34 => ?_) (fun c_34 => ?_) | refine pm_if_ne (tgt := 46) d21_34 rfl (fun c_34 => ?_) (fun c_34 => ?_)
        · omega
        · refine pm_aload_n (i := 0) d21_37 rfl rfl ?_
          refine pm_getE d21_38 lf_3_30 rfl rfl (hK.1) ?_
          refine pm_bipush (v := nI 16) d21_41 (by decide) ?_
          first | refine pm_icmp_ltN (tgt := 47) d21_43 rfl (by omega) (by omega) (fun c_43 => ?_) (fun c_43 => ?_) | refine pm_icmp_lt (tgt := 47) d21_43 rfl (fun c_43 => ?_) (fun c_43 => ?_)
          · exact k47
          · omega
      · exfalso
        unfold icmpN at c_22
        rcases Nat.lt_or_ge q (ko f k) with g | g
        · rw [if_pos (c3 g)] at c_22
          exact absurd c_22 (by decide)
        · have := c1 (by omega)
          rw [if_neg (by omega), if_neg (by omega)] at c_22
          exact absurd c_22 (by decide)
/-- how many struts have kinds from m on -/
def bs9 (f m : Nat) : Nat := cnt (fun i => Nat.ble m (ko f i)) (ns f)
theorem pos_bs (f q k : Nat) : pos f q k = bs9 f (q + 1) + cnt (fun i => Nat.beq (ko f i) q) k := rfl
theorem cnt_split (f q : Nat) : ∀ n, cnt (fun i => Nat.ble (q + 1) (ko f i)) n + cnt (fun i => Nat.beq (ko f i) q) n = cnt (fun i => Nat.ble q (ko f i)) n := by
  intro n
  induction n with
  | zero => rfl
  | succ n ih =>
    simp only [cnt, Nat.ble_eq, Nat.beq_eq]
    rcases Nat.lt_trichotomy (ko f n) q with g | g | g
    · rw [if_neg (show ¬ q + 1 ≤ ko f n by omega), if_neg (show ¬ ko f n = q by omega), if_neg (show ¬ q ≤ ko f n by omega)]
      omega
    · rw [if_neg (show ¬ q + 1 ≤ ko f n by omega), if_pos (show ko f n = q by omega), if_pos (show q ≤ ko f n by omega)]
      omega
    · rw [if_pos (show q + 1 ≤ ko f n by omega), if_neg (show ¬ ko f n = q by omega), if_pos (show q ≤ ko f n by omega)]
      omega
theorem pos_ns (f q : Nat) : pos f q (ns f) = bs9 f q := by rw [pos_bs]; exact cnt_split f q (ns f)
theorem pos_0 (f q : Nat) : pos f q 0 = bs9 f (q + 1) := rfl
theorem bs_0 (f : Nat) : bs9 f 0 = ns f := cnt_all (fun i _ => by rw [Nat.ble_eq]; omega)
theorem bs_n {f : Nat} (h1 : 1 ≤ f) (h6 : f ≤ 6) : bs9 f (nk f) = 0 := cnt_non (fun i hi9 => by have := (bd_s h1 h6 hi9).2.2.1; rw [← Bool.not_eq_true, Nat.ble_eq]; omega)
theorem pos_t {f q k : Nat} (h : ko f k = q) : pos f q (k + 1) = pos f q k + 1 := by
  have e : Nat.beq (ko f k) q = true := by rw [Nat.beq_eq]; exact h
  rw [pos_bs, pos_bs, cnt_t (p := fun i => Nat.beq (ko f i) q) e]
  omega
theorem pos_f {f q k : Nat} (h : ¬ ko f k = q) : pos f q (k + 1) = pos f q k := by
  have e : Nat.beq (ko f k) q = false := by rw [← Bool.not_eq_true, Nat.beq_eq]; exact h
  rw [pos_bs, pos_bs, cnt_f (p := fun i => Nat.beq (ko f i) q) e]
def kv9 (m : Nat) : Int32 := if m = 0 then -1 else nI (m - 1)
theorem kv_dec : ∀ m, m < 17 → 0 < m → nI (m - 1) + Int32.ofInt (-1) = kv9 (m - 1) := by decide +kernel
theorem sp_22 {f : Nat} {A : Mem} {Q : Int32 → Mem → Prop} (h1 : 1 ≤ f) (h6 : f ≤ 6) (e1 : A 11 6 = nI (ns f)) (e2 : A 11 7 = nI (nk f)) (e3 : ∀ k, k < ns f → A 14 k = nI (ko f k)) (h : ∀ A2 : Mem, (∀ c, c ≠ 15 → A2 c = A c) → (∀ i, i < ns f → A2 15 i = nI (so f i)) → Q 0 A2) : pm_P 22 0 [(0, .ref 11)] [] A Q := by
  have hb := bd_n h1 h6
  have outer : ∀ m, m ≤ nk f → ∀ A1 : Mem, (∀ c, c ≠ 15 → A1 c = A c) → (∀ i, i < bs9 f m → A1 15 i = nI (so f i)) → pm_P 22 9 [(0, .ref 11), (1, .int (nI (bs9 f m))), (2, .int (kv9 m))] [] A1 Q := by
    intro m
    induction m with
    | zero =>
      intro hm A1 g1 g2
      refine pm_iload_n (i := 2) d22_9 rfl rfl ?_
      refine pm_if_lt (tgt := 55) d22_10 rfl (fun c_10 => ?_) (fun c_10 => ?_)
      · refine pm_vret d22_55 rfl ?_
        exact h A1 g1 (fun i hi9 => g2 i (by rw [bs_0]; exact hi9))
      · exact absurd (by decide) c_10
    | succ m ih =>
      intro hm A1 g1 g2
      have inner : ∀ k, k ≤ ns f → ∀ A1 : Mem, (∀ c, c ≠ 15 → A1 c = A c) → (∀ i, i < pos f m k → A1 15 i = nI (so f i)) → pm_P 22 15 [(0, .ref 11), (1, .int (nI (pos f m k))), (2, .int (nI m)), (3, .int (nI k))] [] A1 Q := by
        refine up_ind (fun k hk ih2 A1 g1 g2 => ?_)
        refine pm_iload_n (i := 3) d22_15 rfl rfl ?_
        refine pm_aload_n (i := 0) d22_16 rfl rfl ?_
        refine pm_getE (v := nI (ns f)) d22_17 lf_3_37 rfl rfl (by rw [g1 11 (by decide), e1]) ?_
        first | refine pm_icmp_geN (tgt := 49) d22_20 rfl (by omega) (by omega) (fun c_20 => ?_) (fun c_20 => ?_) | refine pm_icmp_ge (tgt := 49) d22_20 rfl (fun c_20 => ?_) (fun c_20 => ?_)
        · refine pm_iinc (L2 := [(0, _), (1, _), (2, _), (3, _)]) (v := kv9 m) d22_49 rfl (kv_dec (m + 1) (by omega) (by omega)) (by decide) rfl ?_
          refine pm_goto (tgt := 9) d22_52 rfl ?_
          refine pm_pick [0, 1, 2] (L2 := [(0, _), (1, _), (2, _)]) rfl ?_
          have e : k = ns f := by omega
          rw [e, pos_ns] at g2 ⊢
          exact ih (by omega) A1 g1 g2
        · have hko := (bd_s h1 h6 c_20).2.2.1
          obtain ⟨z1, z2⟩ := so_pos h1 h6 c_20 
          refine pm_aload_n (i := 0) d22_23 rfl rfl ?_
          refine pm_getR d22_24 lf_3_18 rfl rfl ?_
          refine pm_iload_n (i := 3) d22_27 rfl rfl ?_
          refine pm_ialdN d22_28 rfl (by decide) (by omega) ?_
          rw [g1 14 (by decide), e3 k c_20]
          refine pm_iload_n (i := 2) d22_29 rfl rfl ?_
          first | refine pm_icmp_neN (tgt := 43) d22_30 rfl (by omega) (by omega) (fun c_30 => ?_) (fun c_30 => ?_) | refine pm_icmp_ne (tgt := 43) d22_30 rfl (fun c_30 => ?_) (fun c_30 => ?_)
          · first | refine pm_iincN 1 (L2 := [(0, _), (1, _), (2, _), (3, _)]) d22_43 rfl (by decide) rfl ?_ | refine pm_iinc (L2 := [(0, _), (1, _), (2, _), (3, _)]) d22_43 rfl rfl (by decide) rfl ?_
            refine pm_goto (tgt := 15) d22_46 rfl ?_
            refine (by rw [← pos_f c_30]; exact ih2 c_20 A1 g1 (by rw [pos_f c_30]; exact g2))
          · rw [c_30] at z1 z2 
            refine pm_aload_n (i := 0) d22_33 rfl rfl ?_
            refine pm_getR d22_34 lf_3_21 rfl rfl ?_
            refine pm_iload_n (i := 1) d22_37 rfl rfl ?_
            refine pm_iload_n (i := 3) d22_38 rfl rfl ?_
            refine pm_iastN d22_39 rfl (by decide) (by omega) ?_
            first | refine pm_iincN 1 (L2 := [(0, _), (1, _), (2, _), (3, _)]) d22_40 rfl (by decide) rfl ?_ | refine pm_iinc (L2 := [(0, _), (1, _), (2, _), (3, _)]) d22_40 rfl rfl (by decide) rfl ?_
            first | refine pm_iincN 1 (L2 := [(0, _), (1, _), (2, _), (3, _)]) d22_43 rfl (by decide) rfl ?_ | refine pm_iinc (L2 := [(0, _), (1, _), (2, _), (3, _)]) d22_43 rfl rfl (by decide) rfl ?_
            refine pm_goto (tgt := 15) d22_46 rfl ?_
            have := ih2 c_20 (mset A1 15 (pos f m k) (nI k)) (fun c q => by rw [mset_other q]; exact g1 c q) (fun i hi9 => by
              rw [pos_t c_30] at hi9
              by_cases e : i = pos f m k
              · rw [e, mset_at, z1]
              · rw [mset_ne e]
                exact g2 i (by omega))
            rw [pos_t c_30] at this
            exact this
      refine pm_iload_n (i := 2) d22_9 rfl rfl ?_
      rw [show kv9 (m + 1) = nI m from rfl]
      refine pm_if_lt (tgt := 55) d22_10 rfl (fun c_10 => ?_) (fun c_10 => ?_)
      · exact absurd c_10 (nI_pos (by omega))
      · refine pm_iconst (v := nI 0) d22_13 (by decide) ?_
        refine pm_istore_n (i := 3) (L2 := [(0, _), (1, _), (2, _), (3, _)]) d22_14 rfl (by decide) rfl ?_
        exact inner 0 (Nat.zero_le _) A1 g1 g2
  refine pm_iconst (v := nI 0) d22_0 (by decide) ?_
  refine pm_istore_n (i := 1) (L2 := [(0, _), (1, _)]) d22_1 rfl (by decide) rfl ?_
  refine pm_aload_n (i := 0) d22_2 rfl rfl ?_
  refine pm_getE d22_3 lf_3_30 rfl rfl (e2) ?_
  refine pm_iconst (v := nI 1) d22_6 (by decide) ?_
  first | refine pm_isubN d22_7 (by omega) ?_ | refine pm_isub d22_7 ?_
  refine pm_istore_n (i := 2) (L2 := [(0, _), (1, _), (2, _)]) d22_8 rfl (by decide) rfl ?_
  have := outer (nk f) (Nat.le_refl _) A (fun _ _ => rfl) (fun i hi9 => by rw [bs_n h1 h6] at hi9; exact absurd hi9 (Nat.not_lt_zero i))
  rw [bs_n h1 h6, show kv9 (nk f) = nI (nk f - 1) from if_neg (by omega)] at this
  exact this
theorem sp_18 {f : Nat} {A : Mem} {Q : Int32 → Mem → Prop} (h1 : 1 ≤ f) (h6 : f ≤ 6) (hB : BH f A) (hS : BS f A) (h : ∀ A2 : Mem, (∀ c, c < 11 ∨ 17 < c → A2 c = A c) → BK f A2 → Q 0 A2) : pm_P 18 0 [(0, .ref 11), (1, .ref 1), (2, .ref 5)] [] A Q := by
  have hb := bd_n h1 h6
  have k136 : ∀ A1 : Mem, (∀ c, c < 11 ∨ 17 < c → A1 c = A c) → A1 11 6 = nI (ns f) → A1 11 7 = nI (nk f) → (∀ i, i < ns f → A1 12 i = nI (kn f i) ∧ A1 13 i = nI (kd f i) ∧ A1 14 i = nI (ko f i)) → (∀ q, q < nk f → A1 16 q = nI (qn f q) ∧ A1 17 q = nI (qd f q)) → pm_P 18 136 [(0, .ref 11), (1, .ref 1), (2, .ref 5), (3, .int (nI (ns f)))] [] A1 Q := by
    intro A1 g1 g2 g3 g4 g5
    refine pm_aload_n (i := 0) d18_136 rfl rfl ?_
    refine pm_callVv (k2 := 22) (As := []) d18_137 lk_3_59 ok_22 rfl rfl rfl (Nat.le_of_ble_eq_true rfl) rfl rfl rfl rfl rfl ⟨Nat.le_of_ble_eq_true rfl, Nat.le_of_ble_eq_true rfl⟩ (Nat.le_of_ble_eq_true rfl) ?_
    refine sp_22 h1 h6 g2 g3 (fun k hk => (g4 k hk).2.2) (fun A2 f1 f2 => ?_)
    refine pm_vret d18_140 rfl ?_
    refine h A2 (fun c hc => by rw [f1 c (by omega)]; exact g1 c hc) ⟨?_, ?_, fun i hi9 => ?_, fun q hq => ?_⟩
    · rw [f1 11 (by decide)]; exact g2
    · rw [f1 11 (by decide)]; exact g3
    · rw [f1 12 (by decide), f1 13 (by decide), f1 14 (by decide), f2 i hi9]
      exact ⟨(g4 i hi9).1, (g4 i hi9).2.1, (g4 i hi9).2.2, rfl⟩
    · rw [f1 16 (by decide), f1 17 (by decide)]
      exact g5 q hq
  have two : ∀ i, i ≤ ns f → ∀ A1 : Mem, (∀ c, c < 11 ∨ 17 < c → A1 c = A c) → A1 11 6 = nI (ns f) → KB f (ns f) A1 → (∀ j, j < ns f → A1 12 j = nI (kn f j) ∧ A1 13 j = nI (kd f j)) → (∀ j, j < i → A1 14 j = nI (ko f j)) → pm_P 18 100 [(0, .ref 11), (1, .ref 1), (2, .ref 5), (3, .int (nI i))] [] A1 Q := by
    have hall : ∀ q, q < nk f → prs9 f (ns f) q = true := fun q hq => by
      unfold prs9
      rw [Nat.blt_eq]
      exact ((bd_fk h1 h6).1 q hq).1
    have hid : ∀ q, q ≤ nk f → cnt (prs9 f (ns f)) q = q := fun q hq => cnt_all (fun i hi9 => hall i (by omega))
    refine up_ind (fun i hi9 ih A1 g1 g2 g3 g4 g5 => ?_)
    refine pm_iload_n (i := 3) d18_100 rfl rfl ?_
    refine pm_aload_n (i := 0) d18_101 rfl rfl ?_
    refine pm_getE d18_102 lf_3_37 rfl rfl (g2) ?_
    first | refine pm_icmp_geN (tgt := 136) d18_105 rfl (by omega) (by omega) (fun c_105 => ?_) (fun c_105 => ?_) | refine pm_icmp_ge (tgt := 136) d18_105 rfl (fun c_105 => ?_) (fun c_105 => ?_)
    · have e : i = ns f := by omega
      rw [e] at g5 ⊢
      refine k136 A1 g1 g2 (by rw [g3.1, hid _ (Nat.le_refl _)]) (fun j hj => ⟨(g4 j hj).1, (g4 j hj).2, g5 j hj⟩) (fun q hq => ?_)
      have := g3.2 q hq (hall q hq)
      rw [hid q (by omega)] at this
      exact this
    · have hko := (bd_s h1 h6 c_105).2.2.1 
      refine pm_aload_n (i := 0) d18_108 rfl rfl ?_
      refine pm_getR d18_109 lf_3_18 rfl rfl ?_
      refine pm_iload_n (i := 3) d18_112 rfl rfl ?_
      refine pm_aload_n (i := 0) d18_113 rfl rfl ?_
      refine pm_aload_n (i := 0) d18_114 rfl rfl ?_
      refine pm_getR d18_115 lf_3_9 rfl rfl ?_
      refine pm_iload_n (i := 3) d18_118 rfl rfl ?_
      refine pm_ialdN d18_119 rfl (by decide) (by omega) ?_
      rw [(g4 i c_105).1]
      refine pm_aload_n (i := 0) d18_120 rfl rfl ?_
      refine pm_getR d18_121 lf_3_15 rfl rfl ?_
      refine pm_iload_n (i := 3) d18_124 rfl rfl ?_
      refine pm_ialdN d18_125 rfl (by decide) (by omega) ?_
      rw [(g4 i c_105).2]
      refine pm_callV (k2 := 19) (As := [_, _]) d18_126 lk_3_56 ok_19 rfl rfl rfl (Nat.le_of_ble_eq_true rfl) rfl rfl rfl rfl rfl ⟨Nat.le_of_ble_eq_true rfl, Nat.le_of_ble_eq_true rfl⟩ (Nat.le_of_ble_eq_true rfl) ?_
      refine sp_19 h1 h6 c_105 g3 ?_
      rw [hid _ (by omega)]
      refine pm_iastN d18_129 rfl (by decide) (by omega) ?_
      first | refine pm_iincN 1 (L2 := [(0, _), (1, _), (2, _), (3, _)]) d18_130 rfl (by decide) rfl ?_ | refine pm_iinc (L2 := [(0, _), (1, _), (2, _), (3, _)]) d18_130 rfl rfl (by decide) rfl ?_
      refine pm_goto (tgt := 100) d18_133 rfl ?_
      refine ih c_105 _ (fun c hc => by rw [mset_other (by omega)]; exact g1 c hc) (by rw [mset_other (by decide)]; exact g2) ?_ (fun j hj => ?_) (fun j hj => ?_)
      · unfold KB at *
        rw [mset_other (by decide), mset_other (by decide), mset_other (by decide)]
        exact g3
      · rw [mset_other (by decide), mset_other (by decide)]; exact g4 j hj
      · by_cases e : j = i
        · rw [e, mset_at]
        · rw [mset_ne e]; exact g5 j (by omega)
  have one : ∀ i, i ≤ ns f → ∀ A1 : Mem, (∀ c, c < 11 ∨ 17 < c → A1 c = A c) → A1 11 6 = nI (ns f) → KB f i A1 → (∀ j, j < i → A1 12 j = nI (kn f j) ∧ A1 13 j = nI (kd f j)) → pm_P 18 15 [(0, .ref 11), (1, .ref 1), (2, .ref 5), (3, .int (nI i))] [] A1 Q := by
    refine up_ind (fun i hi9 ih A1 g1 g2 g3 g4 => ?_)
    have hB1 : ∀ v w, BH f (mset (mset A1 12 i v) 13 i w) := fun v w => BH_keep hB (fun c _ _ => by rw [mset_other (by omega), mset_other (by omega)]; exact g1 c (by omega))
    have hB2 : ∀ v, BH f (mset A1 12 i v) := fun v => BH_keep hB (fun c _ _ => by rw [mset_other (by omega)]; exact g1 c (by omega))
    have hB3 : BH f A1 := BH_keep hB (fun c _ _ => g1 c (by omega))
    refine pm_iload_n (i := 3) d18_15 rfl rfl ?_
    refine pm_aload_n (i := 0) d18_16 rfl rfl ?_
    refine pm_getE d18_17 lf_3_37 rfl rfl (g2) ?_
    first | refine pm_icmp_geN (tgt := 98) d18_20 rfl (by omega) (by omega) (fun c_20 => ?_) (fun c_20 => ?_) | refine pm_icmp_ge (tgt := 98) d18_20 rfl (fun c_20 => ?_) (fun c_20 => ?_)
    · refine pm_iconst (v := nI 0) d18_98 (by decide) ?_
      refine pm_istore_n (i := 3) (L2 := [(0, _), (1, _), (2, _), (3, _)]) d18_99 rfl (by decide) rfl ?_
      have e : i = ns f := by omega
      rw [e] at g3 g4
      exact two 0 (Nat.zero_le _) A1 g1 g2 g3 g4 (fun j hj => absurd hj (Nat.not_lt_zero j))
    · obtain ⟨l1, l2, l3, -⟩ := bd_s h1 h6 c_20
      obtain ⟨x1, x2, x3, x4⟩ := bd_pr h1 h6 c_20
      obtain ⟨y1, y2⟩ := hS.2.1 i c_20 
      refine pm_aload_n (i := 2) d18_23 rfl rfl ?_
      refine pm_getR d18_24 lf_3_40 rfl rfl ?_
      refine pm_iload_n (i := 3) d18_27 rfl rfl ?_
      refine pm_ialdN d18_28 rfl (by decide) (by omega) ?_
      rw [g1 6 (by decide), y1]
      refine pm_istore (L2 := [(0, _), (1, _), (2, _), (3, _), (4, _)]) d18_29 (by decide) rfl ?_
      refine pm_aload_n (i := 2) d18_31 rfl rfl ?_
      refine pm_getR d18_32 lf_3_43 rfl rfl ?_
      refine pm_iload_n (i := 3) d18_35 rfl rfl ?_
      refine pm_ialdN d18_36 rfl (by decide) (by omega) ?_
      rw [g1 7 (by decide), y2]
      refine pm_istore (L2 := [(0, _), (1, _), (2, _), (3, _), (4, _), (5, _)]) d18_37 (by decide) rfl ?_
      refine pm_aload_n (i := 0) d18_39 rfl rfl ?_
      refine pm_getR d18_40 lf_3_9 rfl rfl ?_
      refine pm_iload_n (i := 3) d18_43 rfl rfl ?_
      refine pm_aload_n (i := 1) d18_44 rfl rfl ?_
      refine pm_iload d18_45 rfl ?_
      refine pm_iload d18_47 rfl ?_
      refine pm_callV (k2 := 11) (As := [_, _]) d18_49 lk_3_46 ok_11 rfl rfl rfl (Nat.le_of_ble_eq_true rfl) rfl rfl rfl rfl rfl ⟨Nat.le_of_ble_eq_true rfl, Nat.le_of_ble_eq_true rfl⟩ (Nat.le_of_ble_eq_true rfl) ?_
      refine sp_11 h1 h6 hB3 (by omega) l2 ?_
      rw [x1]
      refine pm_iastN d18_52 rfl (by decide) (by omega) ?_
      refine pm_aload_n (i := 0) d18_53 rfl rfl ?_
      refine pm_getR d18_54 lf_3_15 rfl rfl ?_
      refine pm_iload_n (i := 3) d18_57 rfl rfl ?_
      refine pm_aload_n (i := 1) d18_58 rfl rfl ?_
      refine pm_iload d18_59 rfl ?_
      refine pm_iload d18_61 rfl ?_
      refine pm_callV (k2 := 11) (As := [_, _]) d18_63 lk_3_46 ok_11 rfl rfl rfl (Nat.le_of_ble_eq_true rfl) rfl rfl rfl rfl rfl ⟨Nat.le_of_ble_eq_true rfl, Nat.le_of_ble_eq_true rfl⟩ (Nat.le_of_ble_eq_true rfl) ?_
      refine sp_11 h1 h6 (hB2 _) (by omega) (by omega) ?_
      refine pm_aload_n (i := 1) d18_66 rfl rfl ?_
      refine pm_iload d18_67 rfl ?_
      refine pm_iload d18_69 rfl ?_
      refine pm_callV (k2 := 11) (As := [_, _]) d18_71 lk_3_46 ok_11 rfl rfl rfl (Nat.le_of_ble_eq_true rfl) rfl rfl rfl rfl rfl ⟨Nat.le_of_ble_eq_true rfl, Nat.le_of_ble_eq_true rfl⟩ (Nat.le_of_ble_eq_true rfl) ?_
      refine sp_11 h1 h6 (hB2 _) l2 l2 ?_
      refine pm_imul d18_74 ?_
      rw [x2]
      refine pm_iastN d18_75 rfl (by decide) (by omega) ?_
      refine pm_aload_n (i := 0) d18_76 rfl rfl ?_
      refine pm_aload_n (i := 0) d18_77 rfl rfl ?_
      refine pm_getR d18_78 lf_3_9 rfl rfl ?_
      refine pm_iload_n (i := 3) d18_81 rfl rfl ?_
      refine pm_ialdN d18_82 rfl (by decide) (by omega) ?_
      rw [mset_other (by decide), mset_at]
      refine pm_aload_n (i := 0) d18_83 rfl rfl ?_
      refine pm_getR d18_84 lf_3_15 rfl rfl ?_
      refine pm_iload_n (i := 3) d18_87 rfl rfl ?_
      refine pm_ialdN d18_88 rfl (by decide) (by omega) ?_
      rw [mset_at]
      refine pm_callVv (k2 := 21) (As := [_, _]) d18_89 lk_3_52 ok_21 rfl rfl rfl (Nat.le_of_ble_eq_true rfl) rfl rfl rfl rfl rfl ⟨Nat.le_of_ble_eq_true rfl, Nat.le_of_ble_eq_true rfl⟩ (Nat.le_of_ble_eq_true rfl) ?_
      refine sp_21 h1 h6 c_20 (A := mset (mset A1 12 i (nI (kn f i))) 13 i (nI (kd f i))) ?_ (fun A2 f1 f2 f3 => ?_)
      · unfold KB at *
        rw [mset_other (by decide), mset_other (by decide), mset_other (by decide), mset_other (by decide), mset_other (by decide), mset_other (by decide)]
        exact g3
      first | refine pm_iincN 1 (L2 := [(0, _), (1, _), (2, _), (3, _), (4, _), (5, _)]) d18_92 rfl (by decide) rfl ?_ | refine pm_iinc (L2 := [(0, _), (1, _), (2, _), (3, _), (4, _), (5, _)]) d18_92 rfl rfl (by decide) rfl ?_
      refine pm_goto (tgt := 15) d18_95 rfl ?_
      refine pm_pick [0, 1, 2, 3] (L2 := [(0, _), (1, _), (2, _), (3, _)]) rfl ?_
      refine ih c_20 A2 (fun c hc => by rw [f1 c (by omega) (by omega) (by omega), mset_other (by omega), mset_other (by omega)]; exact g1 c hc) (by rw [f2 6 (by decide), mset_other (by decide), mset_other (by decide)]; exact g2) f3 (fun j hj => ?_)
      rw [f1 12 (by decide) (by decide) (by decide), f1 13 (by decide) (by decide) (by decide)]
      by_cases e : j = i
      · rw [e, mset_at, mset_other (by decide), mset_at]
        exact ⟨rfl, rfl⟩
      · rw [mset_ne e, mset_other (by decide), mset_ne e, mset_other (by decide)]
        exact g4 j (by omega)
  refine pm_aload_n (i := 0) d18_0 rfl rfl ?_
  refine pm_iconst (v := nI 0) d18_1 (by decide) ?_
  refine pm_putI d18_2 lp_3_30 rfl rfl ?_
  refine pm_aload_n (i := 0) d18_5 rfl rfl ?_
  refine pm_aload_n (i := 2) d18_6 rfl rfl ?_
  refine pm_getE (v := nI (ns f)) d18_7 lf_3_34 rfl rfl (by rw [mset_other (by decide), hS.1]) ?_
  refine pm_putI d18_10 lp_3_37 rfl rfl ?_
  refine pm_iconst (v := nI 0) d18_13 (by decide) ?_
  refine pm_istore_n (i := 3) (L2 := [(0, _), (1, _), (2, _), (3, _)]) d18_14 rfl (by decide) rfl ?_
  refine one 0 (Nat.zero_le _) _ (fun c hc => by rw [mset_other (by omega), mset_other (by omega)]) (by rw [mset_at]) ⟨?_, fun q hq hpq => ?_⟩ (fun j hj => absurd hj (Nat.not_lt_zero j))
  · rw [mset_ne (by decide), mset_at]
    exact congrArg nI (cnt_non (fun q _ => by unfold prs9; rw [← Bool.not_eq_true, Nat.blt_eq]; omega)).symm
  · unfold prs9 at hpq
    rw [Nat.blt_eq] at hpq
    exact absurd hpq (Nat.not_lt_zero _)
