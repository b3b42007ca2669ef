/-! THE MILL'S ANSWERS -/
theorem smN_bd {g : Nat → Nat} {c : Nat} {n : Nat} (h : ∀ i, i < n → g i ≤ c) : smN g n ≤ n * c := by
  rw [← smN_const]
  exact smN_le h
theorem sp_33 {s : Stt} {R B S m : Nat} {A : Mem} {Q : Int32 → Mem → Prop} (h1 : 1 ≤ sF s) (h6 : sF s ≤ 6) (hR : 10 ≤ R) (hR2 : R ≤ 2000) (hB : 1 ≤ B) (hB2 : B ≤ 20000) (hS : S ≤ 20) (hm : m ≤ 1000) (hM : ML s A) (hN : LN (sF s) R A)
    (h : ∀ A2 : Mem, (∀ c, c ≠ 40 → c ≠ 44 → c ≠ 45 → c ≠ 46 → A2 c = A c) → (∀ j, j ≠ 7 → A2 40 j = A 40 j) → (enough s R B S m = true → SD s R B S A2) → Q (b2i (enough s R B S m)) A2) : pm_P 33 0 [(0, .ref 40), (1, .int (nI m)), (2, .int (nI B)), (3, .int (nI S))] [] A Q := by
  have hb := bd_n h1 h6
  have hw := nw_le s
  have hs9 : smN (fun i => lnS s R (kp s i)) (nw s) ≤ nw s * 4095 := smN_bd (fun i _ => by have := lnS_lt s R (kp s i); omega)
  have hx1 : nw s * S ≤ 432 * 20 := Nat.mul_le_mul (by omega) hS
  have hx2 : m * (B + S) ≤ 1000 * 20020 := Nat.mul_le_mul hm (by omega)
  have k24 : fits s R B → pm_P 33 24 [(0, .ref 40), (1, .int (nI m)), (2, .int (nI B)), (3, .int (nI S))] [] A Q := by
    intro hf
    refine pm_aload_n (i := 0) d33_24 rfl rfl ?_
    refine pm_callV (k2 := 36) (As := []) d33_25 lk_5_43 ok_36 rfl rfl rfl (Nat.le_of_ble_eq_true rfl) rfl rfl rfl rfl rfl ⟨Nat.le_of_ble_eq_true rfl, Nat.le_of_ble_eq_true rfl⟩ (Nat.le_of_ble_eq_true rfl) ?_
    refine sp_36 h1 h6 hM hN ?_
    refine pm_aload_n (i := 0) d33_28 rfl rfl ?_
    refine pm_getE d33_29 lf_5_30 rfl rfl (hM.1) ?_
    refine pm_iload_n (i := 3) d33_32 rfl rfl ?_
    first | refine pm_imulN d33_33 ?_ | refine pm_imul d33_33 ?_
    first | refine pm_iaddN d33_34 ?_ | refine pm_iadd d33_34 ?_
    refine pm_iload_n (i := 1) d33_35 rfl rfl ?_
    refine pm_iload_n (i := 2) d33_36 rfl rfl ?_
    refine pm_iload_n (i := 3) d33_37 rfl rfl ?_
    first | refine pm_iaddN d33_38 ?_ | refine pm_iadd d33_38 ?_
    first | refine pm_imulN d33_39 ?_ | refine pm_imul d33_39 ?_
    first | refine pm_icmp_leN (tgt := 45) d33_40 rfl (by omega) (by omega) (fun c_40 => ?_) (fun c_40 => ?_) | refine pm_icmp_le (tgt := 45) d33_40 rfl (fun c_40 => ?_) (fun c_40 => ?_)
    · refine pm_aload_n (i := 0) d33_45 rfl rfl ?_
      refine pm_iload_n (i := 1) d33_46 rfl rfl ?_
      refine pm_iload_n (i := 2) d33_47 rfl rfl ?_
      refine pm_iload_n (i := 3) d33_48 rfl rfl ?_
      refine pm_callV (k2 := 34) (As := [_, _, _]) d33_49 lk_5_47 ok_34 rfl rfl rfl (Nat.le_of_ble_eq_true rfl) rfl rfl rfl rfl rfl ⟨Nat.le_of_ble_eq_true rfl, Nat.le_of_ble_eq_true rfl⟩ (Nat.le_of_ble_eq_true rfl) ?_
      refine sp_34 h1 h6 hR hR2 hB hB2 hS hm hM hN hf (fun A2 f1 f2 f3 => ?_)
      refine pm_iret d33_52 rfl (by first | rfl | exact nar_b _) ?_
      have he : enough s R B S m = decide ((swn s R B S).1 ≤ m) := by unfold enough; rw [decide_eq_true hf, Bool.true_and]
      have := h A2 f1 f2 (fun q => f3 (by rw [he] at q; exact of_decide_eq_true q))
      rw [he] at this
      exact this
    · refine pm_iconst (v := nI 0) d33_43 (by decide) ?_
      refine pm_iret d33_44 rfl (by first | rfl | exact nar_b _) ?_
      have hn : ¬ (swn s R B S).1 ≤ m := fun q => by
        have := (saw_fits (S := S) hB (fits_ok h1 h6 hR hR2 hf) q).2
        omega
      have he : enough s R B S m = false := by unfold enough; rw [decide_eq_false hn, Bool.and_false]
      have := h A (fun _ _ _ _ _ => rfl) (fun _ _ => rfl) (fun q => by rw [he] at q; cases q)
      rw [he] at this
      exact this
  refine pm_aload_n (i := 0) d33_0 rfl rfl ?_
  refine pm_getE d33_1 lf_5_30 rfl rfl (hM.1) ?_
  first | refine pm_if_leN (tgt := 24) d33_4 rfl (by omega) (fun c_4 => ?_) (fun c_4 => ?_) | refine pm_if_le (tgt := 24) d33_4 rfl (fun c_4 => ?_) (fun c_4 => ?_)
  · exact k24 (fits_0 h1 h6 hR2 (fun q => by omega))
  · have hk := (bd_s h1 h6 (kp_ok h1 h6 c_4).1).2.2.1
    have hl := lnS_lt s R (kp s 0) 
    refine pm_aload_n (i := 0) d33_7 rfl rfl ?_
    refine pm_getR d33_8 lf_5_18 rfl rfl ?_
    refine pm_aload_n (i := 0) d33_11 rfl rfl ?_
    refine pm_getR d33_12 lf_5_15 rfl rfl ?_
    refine pm_iconst (v := nI 0) d33_15 (by decide) ?_
    refine pm_ialdN d33_16 rfl (by decide) (by decide) ?_
    rw [(hM.2 0 c_4).2]
    refine pm_ialdN d33_17 rfl (by decide) (by omega) ?_
    rw [hN _ hk]
    rw [show len (sF s) (ko (sF s) (kp s 0)) R = lnS s R (kp s 0) from rfl]
    refine pm_iload_n (i := 2) d33_18 rfl rfl ?_
    first | refine pm_icmp_leN (tgt := 24) d33_19 rfl (by omega) (by omega) (fun c_19 => ?_) (fun c_19 => ?_) | refine pm_icmp_le (tgt := 24) d33_19 rfl (fun c_19 => ?_) (fun c_19 => ?_)
    · exact k24 (fits_0 h1 h6 hR2 (fun _ => c_19))
    · refine pm_iconst (v := nI 0) d33_22 (by decide) ?_
      refine pm_iret d33_23 rfl (by first | rfl | exact nar_b _) ?_
      have hn : ¬ fits s R B := fun q => by
        obtain ⟨a1, a2⟩ := kp_ok h1 h6 c_4
        have := q _ a1 a2
        omega
      have he : enough s R B S m = false := by unfold enough; rw [decide_eq_false hn, Bool.false_and]
      have := h A (fun _ _ _ _ _ => rfl) (fun _ _ => rfl) (fun q => by rw [he] at q; cases q)
      rw [he] at this
      exact this
def fitB (s : Stt) (R B : Nat) : Bool := decide (fits s R B)
theorem swn_le {s : Stt} {R B S : Nat} (h1 : 1 ≤ sF s) (h6 : sF s ≤ 6) (hR : 10 ≤ R) (hR2 : R ≤ 2000) (hB : 1 ≤ B) (hf : fits s R B) : (swn s R B S).1 ≤ nw s ∧ nw s ≤ 432 ∧ ∀ b, b < (swn s R B S).1 → (swn s R B S).2.1 b ≤ B ∧ (swn s R B S).2.2.1 b ≤ nw s := by
  have h := saw_inv (S := S) hB (fits_ok h1 h6 hR hR2 hf) (nw s) (Nat.le_refl _)
  have hw := nw_le s
  have hb := bd_n h1 h6
  exact ⟨h.1, by omega, fun b hb9 => ⟨(h.2.1 b hb9).1, (h.2.1 b hb9).2.2⟩⟩
theorem enough_432 {s : Stt} {R B S : Nat} (h1 : 1 ≤ sF s) (h6 : sF s ≤ 6) (hR : 10 ≤ R) (hR2 : R ≤ 2000) (hB : 1 ≤ B) : enough s R B S 432 = fitB s R B := by
  unfold enough fitB
  by_cases hf : fits s R B
  · have := swn_le (S := S) h1 h6 hR hR2 hB hf
    rw [decide_eq_true hf, decide_eq_true (show (swn s R B S).1 ≤ 432 by omega)]
    rfl
  · rw [decide_eq_false hf, Bool.false_and]
theorem sp_108 {s : Stt} {B S : Nat} {A : Mem} {Q : Int32 → Mem → Prop} (hI : CI s A) (hB : 100 ≤ B) (hB2 : B ≤ 20000) (hS : S ≤ 20)
    (h : ∀ A2 : Mem, (∀ c, c < 40 ∨ 46 < c → A2 c = A c) → ML s A2 → LN (sF s) (sR s) A2 → (fitB s (sR s) B = true → SD s (sR s) B S A2) → Q (b2i (fitB s (sR s) B)) A2) : pm_P 108 0 [(0, .ref 0), (1, .int (nI B)), (2, .int (nI S))] [] A Q := by
  obtain ⟨F1, F6, R1, R2, -⟩ := hI.1
  refine pm_aload_n (i := 0) d108_0 rfl rfl ?_
  refine pm_callVv (k2 := 107) (As := []) d108_1 lk_10_283 ok_107 rfl rfl rfl (Nat.le_of_ble_eq_true rfl) rfl rfl rfl rfl rfl ⟨Nat.le_of_ble_eq_true rfl, Nat.le_of_ble_eq_true rfl⟩ (Nat.le_of_ble_eq_true rfl) ?_
  refine sp_107 hI (fun A1 f1 f2 => ?_)
  refine pm_aload_n (i := 0) d108_4 rfl rfl ?_
  refine pm_getR d108_5 lf_10_61 rfl rfl ?_
  refine pm_aload_n (i := 0) d108_8 rfl rfl ?_
  refine pm_getR d108_9 lf_10_26 rfl rfl ?_
  refine pm_aload_n (i := 0) d108_12 rfl rfl ?_
  refine pm_getR d108_13 lf_10_40 rfl rfl ?_
  refine pm_getE (v := nI (sR s)) d108_16 lf_10_107 rfl rfl (by rw [f1 21 (by decide) (by decide) (by decide), hI.2.2.2.1]) ?_
  refine pm_callVv (k2 := 32) (As := [_, _]) d108_19 lk_10_286 ok_32 rfl rfl rfl (Nat.le_of_ble_eq_true rfl) rfl rfl rfl rfl rfl ⟨Nat.le_of_ble_eq_true rfl, Nat.le_of_ble_eq_true rfl⟩ (Nat.le_of_ble_eq_true rfl) ?_
  refine sp_32 F1 F6 (fun q hq => by rw [f1 16 (by decide) (by decide) (by decide), f1 17 (by decide) (by decide) (by decide)]; exact hI.2.1.2.2.1.2.2.2 q hq) (by rw [f1 11 (by decide) (by decide) (by decide)]; exact CI_nk hI) R2 (fun A2 f3 f4 => ?_)
  have hM2 : ML s A2 := by
    unfold ML at *
    rw [f3 40 (by decide), f3 41 (by decide), f3 42 (by decide)]
    exact f2
  refine pm_aload_n (i := 0) d108_22 rfl rfl ?_
  refine pm_getR d108_23 lf_10_61 rfl rfl ?_
  refine pm_sipush (v := nI 432) d108_26 (by decide) ?_
  refine pm_iload_n (i := 1) d108_29 rfl rfl ?_
  refine pm_iload_n (i := 2) d108_30 rfl rfl ?_
  refine pm_callV (k2 := 33) (As := [_, _, _]) d108_31 lk_10_290 ok_33 rfl rfl rfl (Nat.le_of_ble_eq_true rfl) rfl rfl rfl rfl rfl ⟨Nat.le_of_ble_eq_true rfl, Nat.le_of_ble_eq_true rfl⟩ (Nat.le_of_ble_eq_true rfl) ?_
  refine sp_33 F1 F6 R1 R2 (by omega) hB2 hS (by decide) hM2 f4 (fun A3 g1 g2 g3 => ?_)
  refine pm_iret d108_34 rfl (by first | rfl | exact nar_b _) ?_
  rw [enough_432 F1 F6 R1 R2 (by omega)] at g3 ⊢
  refine h A3 (fun c hc => ?_) ?_ ?_ g3
  · rw [g1 c (by omega) (by omega) (by omega) (by omega), f3 c (by omega), f1 c (by omega) (by omega) (by omega)]
  · unfold ML at *
    rw [g1 41 (by decide) (by decide) (by decide) (by decide), g1 42 (by decide) (by decide) (by decide) (by decide), g2 2 (by decide)]
    exact hM2
  · unfold LN at *
    rw [g1 43 (by decide) (by decide) (by decide) (by decide)]
    exact f4
/-- the bar of a strut -/
def barA (s : Stt) (i : Nat) : Int32 := if fitB s (sR s) (sB s) = true then (if ks s i = true then nI ((swn s (sR s) (sB s) (sW s)).2.2.2 i) else -1004) else -1002
theorem sp_109 {s : Stt} {i : Nat} {A : Mem} {Q : Int32 → Mem → Prop} (hI : CI s A) (hi9 : i < ns (sF s)) (h : ∀ A2 : Mem, (∀ c, c < 40 ∨ 46 < c → A2 c = A c) → Q (barA s i) A2) : pm_P 109 0 [(0, .ref 0), (1, .int (nI i))] [] A Q := by
  obtain ⟨F1, F6, R1, R2, B1, B2, W1, -⟩ := hI.1
  have hb := CI_bd hI
  refine pm_aload_n (i := 0) d109_0 rfl rfl ?_
  refine pm_aload_n (i := 0) d109_1 rfl rfl ?_
  refine pm_getR d109_2 lf_10_40 rfl rfl ?_
  refine pm_getE d109_5 lf_10_118 rfl rfl (hI.2.2.2.2.2.1) ?_
  refine pm_aload_n (i := 0) d109_8 rfl rfl ?_
  refine pm_getR d109_9 lf_10_40 rfl rfl ?_
  refine pm_getE d109_12 lf_10_121 rfl rfl (hI.2.2.2.2.2.2.1) ?_
  refine pm_callV (k2 := 108) (As := [_, _]) d109_15 lk_10_114 ok_108 rfl rfl rfl (Nat.le_of_ble_eq_true rfl) rfl rfl rfl rfl rfl ⟨Nat.le_of_ble_eq_true rfl, Nat.le_of_ble_eq_true rfl⟩ (Nat.le_of_ble_eq_true rfl) ?_
  refine sp_108 hI B1 B2 W1 (fun A2 f1 f2 f3 f4 => ?_)
  have hI2 : CI s A2 := CI_keep hI (fun c hc => f1 c (by omega))
  have hh := h A2 f1
  unfold barA at hh
  first | refine pm_if_neB (tgt := 25) d109_18 rfl (fun c_18 => ?_) (fun c_18 => ?_) | refine pm_if_neN (tgt := 25) d109_18 rfl (by omega) (fun c_18 => ?_) (fun c_18 => ?_) | refine pm_if_ne (tgt := 25) d109_18 rfl (fun c_18 => ?_) (fun c_18 => ?_)
  · refine pm_aload_n (i := 0) d109_25 rfl rfl ?_
    refine pm_iload_n (i := 1) d109_26 rfl rfl ?_
    refine pm_callV (k2 := 90) (As := [_]) d109_27 lk_10_224 ok_90 rfl rfl rfl (Nat.le_of_ble_eq_true rfl) rfl rfl rfl rfl rfl ⟨Nat.le_of_ble_eq_true rfl, Nat.le_of_ble_eq_true rfl⟩ (Nat.le_of_ble_eq_true rfl) ?_
    refine sp_90 hI2 hi9 ?_
    first | refine pm_if_eqB (tgt := 45) d109_30 rfl (fun c_30 => ?_) (fun c_30 => ?_) | refine pm_if_eqN (tgt := 45) d109_30 rfl (by omega) (fun c_30 => ?_) (fun c_30 => ?_) | refine pm_if_eq (tgt := 45) d109_30 rfl (fun c_30 => ?_) (fun c_30 => ?_)
    · refine pm_sipush (v := -1004) d109_45 (by decide) ?_
      refine pm_iret d109_48 rfl (by first | rfl | exact nar_b _) ?_
      rw [if_pos c_18, if_neg (by rw [c_30]; decide)] at hh
      exact hh
    · obtain ⟨j, hj, e⟩ := kp_all F1 F6 hi9 c_30
      have e46 := (f4 c_18).2.2 j hj
      rw [e] at e46 
      refine pm_aload_n (i := 0) d109_33 rfl rfl ?_
      refine pm_getR d109_34 lf_10_61 rfl rfl ?_
      refine pm_getR d109_37 lf_10_354 rfl rfl ?_
      refine pm_iload_n (i := 1) d109_40 rfl rfl ?_
      refine pm_ialdN d109_41 rfl (by decide) (by omega) ?_
      rw [e46]
      refine pm_goto (tgt := 48) d109_42 rfl ?_
      refine pm_iret d109_48 rfl (by first | rfl | exact nar_b _) ?_
      rw [if_pos c_18, if_pos c_30] at hh
      exact hh
  · refine pm_sipush (v := -1002) d109_21 (by decide) ?_
    refine pm_iret d109_24 rfl (by first | rfl | exact nar_b _) ?_
    rw [if_neg (by rw [c_18]; decide)] at hh
    exact hh
theorem sp_37 {s : Stt} {R B S : Nat} {A : Mem} {Q : Int32 → Mem → Prop} (hD : SD s R B S A) (hn : (swn s R B S).1 ≤ 432) (h : Q (nI (smN (swn s R B S).2.1 (swn s R B S).1)) A) : pm_P 37 0 [(0, .ref 40)] [] A Q := by
  have lp : ∀ i, i ≤ (swn s R B S).1 → pm_P 37 4 [(0, .ref 40), (1, .int (nI (smN (swn s R B S).2.1 i))), (2, .int (nI i))] [] A Q := by
    refine up_ind (fun i hi9 ih => ?_)
    refine pm_iload_n (i := 2) d37_4 rfl rfl ?_
    refine pm_aload_n (i := 0) d37_5 rfl rfl ?_
    refine pm_getE d37_6 lf_5_51 rfl rfl (hD.1) ?_
    first | refine pm_icmp_geN (tgt := 27) d37_9 rfl (by omega) (by omega) (fun c_9 => ?_) (fun c_9 => ?_) | refine pm_icmp_ge (tgt := 27) d37_9 rfl (fun c_9 => ?_) (fun c_9 => ?_)
    · refine pm_iload_n (i := 1) d37_27 rfl rfl ?_
      refine pm_iret d37_28 rfl (by first | rfl | exact nar_b _) ?_
      have e : i = (swn s R B S).1 := by omega
      rw [e]
      exact h
    · refine pm_iload_n (i := 1) d37_12 rfl rfl ?_
      refine pm_aload_n (i := 0) d37_13 rfl rfl ?_
      refine pm_getR d37_14 lf_5_21 rfl rfl ?_
      refine pm_iload_n (i := 2) d37_17 rfl rfl ?_
      refine pm_ialdN d37_18 rfl (by decide) (by omega) ?_
      rw [(hD.2.1 i c_9).1]
      first | refine pm_iaddN d37_19 ?_ | refine pm_iadd d37_19 ?_
      refine pm_istore_n (i := 1) (L2 := [(0, _), (1, _), (2, _)]) d37_20 rfl (by decide) rfl ?_
      first | refine pm_iincN 1 (L2 := [(0, _), (1, _), (2, _)]) d37_21 rfl (by decide) rfl ?_ | refine pm_iinc (L2 := [(0, _), (1, _), (2, _)]) d37_21 rfl rfl (by decide) rfl ?_
      refine pm_goto (tgt := 4) d37_24 rfl ?_
      exact ih c_9
  refine pm_iconst (v := nI 0) d37_0 (by decide) ?_
  refine pm_istore_n (i := 1) (L2 := [(0, _), (1, _)]) d37_1 rfl (by decide) rfl ?_
  refine pm_iconst (v := nI 0) d37_2 (by decide) ?_
  refine pm_istore_n (i := 2) (L2 := [(0, _), (1, _), (2, _)]) d37_3 rfl (by decide) rfl ?_
  exact lp 0 (Nat.zero_le _)
def mxN (g : Nat → Nat) : Nat → Nat
  | 0 => 0
  | n + 1 => if mxN g n < g n then g n else mxN g n
theorem mxN_le {g : Nat → Nat} {c n : Nat} (h : ∀ i, i < n → g i ≤ c) : mxN g n ≤ c := by
  induction n with
  | zero => exact Nat.zero_le _
  | succ n ih =>
    simp only [mxN]
    split
    · exact h n (by omega)
    · exact ih (fun i hi9 => h i (by omega))
theorem mxN_congr {g h : Nat → Nat} {n : Nat} (e : ∀ i, i < n → g i = h i) : mxN g n = mxN h n := by
  induction n with
  | zero => rfl
  | succ n ih => simp only [mxN]; rw [ih (fun i hi9 => e i (by omega)), e n (by omega)]
theorem nI_max {a b : Nat} (ha : a < 2 ^ 31) (hb : b < 2 ^ 31) : (if nI a < nI b then nI b else nI a) = nI (if a < b then b else a) := by
  by_cases h : a < b
  · rw [if_pos ((nI_lt_iff ha hb).mpr h), if_pos h]
  · rw [if_neg (fun q => h ((nI_lt_iff ha hb).mp q)), if_neg h]
theorem sp_38 {s : Stt} {R B S : Nat} {A : Mem} {Q : Int32 → Mem → Prop} (hD : SD s R B S A) (hn : (swn s R B S).1 ≤ 432) (hp : ∀ b, b < (swn s R B S).1 → (swn s R B S).2.2.1 b ≤ 432) (h : Q (nI (mxN (swn s R B S).2.2.1 (swn s R B S).1)) A) : pm_P 38 0 [(0, .ref 40)] [] A Q := by
  have lp : ∀ i, i ≤ (swn s R B S).1 → pm_P 38 4 [(0, .ref 40), (1, .int (nI (mxN (swn s R B S).2.2.1 i))), (2, .int (nI i))] [] A Q := by
    refine up_ind (fun i hi9 ih => ?_)
    have hle : mxN (swn s R B S).2.2.1 i ≤ 432 := mxN_le (fun j hj => hp j (by omega))
    refine pm_iload_n (i := 2) d38_4 rfl rfl ?_
    refine pm_aload_n (i := 0) d38_5 rfl rfl ?_
    refine pm_getE d38_6 lf_5_51 rfl rfl (hD.1) ?_
    first | refine pm_icmp_geN (tgt := 29) d38_9 rfl (by omega) (by omega) (fun c_9 => ?_) (fun c_9 => ?_) | refine pm_icmp_ge (tgt := 29) d38_9 rfl (fun c_9 => ?_) (fun c_9 => ?_)
    · refine pm_iload_n (i := 1) d38_29 rfl rfl ?_
      refine pm_iret d38_30 rfl (by first | rfl | exact nar_b _) ?_
      have e : i = (swn s R B S).1 := by omega
      rw [e]
      exact h
    · refine pm_iload_n (i := 1) d38_12 rfl rfl ?_
      refine pm_aload_n (i := 0) d38_13 rfl rfl ?_
      refine pm_getR d38_14 lf_5_24 rfl rfl ?_
      refine pm_iload_n (i := 2) d38_17 rfl rfl ?_
      refine pm_ialdN d38_18 rfl (by decide) (by omega) ?_
      rw [(hD.2.1 i c_9).2]
      refine pm_mmax d38_19 lm_5_58 (Nat.le_of_ble_eq_true rfl) (Nat.le_of_ble_eq_true rfl) ?_
      rw [nI_max (by omega) (by have := hp i c_9; omega)]
      refine pm_istore_n (i := 1) (L2 := [(0, _), (1, _), (2, _)]) d38_22 rfl (by decide) rfl ?_
      first | refine pm_iincN 1 (L2 := [(0, _), (1, _), (2, _)]) d38_23 rfl (by decide) rfl ?_ | refine pm_iinc (L2 := [(0, _), (1, _), (2, _)]) d38_23 rfl rfl (by decide) rfl ?_
      refine pm_goto (tgt := 4) d38_26 rfl ?_
      exact ih c_9
  refine pm_iconst (v := nI 0) d38_0 (by decide) ?_
  refine pm_istore_n (i := 1) (L2 := [(0, _), (1, _)]) d38_1 rfl (by decide) rfl ?_
  refine pm_iconst (v := nI 0) d38_2 (by decide) ?_
  refine pm_istore_n (i := 2) (L2 := [(0, _), (1, _), (2, _)]) d38_3 rfl (by decide) rfl ?_
  exact lp 0 (Nat.zero_le _)
