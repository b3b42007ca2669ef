/-! WHAT THE LAW SAYS, of the answers as numbers -/
theorem cnt_imp {p q : Nat → Bool} {n : Nat} (h : ∀ i, i < n → p i = true → q i = true) : cnt p n ≤ cnt q n := by
  induction n with
  | zero => exact Nat.le_refl 0
  | succ n ih =>
    have h1 := ih (fun i hi9 => h i (by omega))
    have h2 := h n (by omega)
    simp only [cnt]
    cases hp : p n with
    | false => simp; omega
    | true => rw [h2 hp]; simp; omega
theorem cnt_0 {p : Nat → Bool} {n : Nat} (h : cnt p n = 0) : ∀ i, i < n → p i = false := by
  intro i hi9
  cases hp : p i with
  | false => rfl
  | true =>
    have h1 := cnt_lt hp hi9
    omega
/-- a row of different places holds no more than there are -/
theorem cnt_row {n M : Nat} {g : Nat → Nat} (hg : ∀ i, i < n → g i < M) (hj : ∀ i j, i < n → j < n → g i = g j → i = j) : ∀ (m : Nat), m ≤ n → ∀ p : Nat → Bool, cnt (fun i => p (g i)) m ≤ cnt p M := by
  intro m
  induction m with
  | zero => intro _ p; exact Nat.zero_le _
  | succ m ih =>
    intro hm p
    simp only [cnt]
    by_cases hp : p (g m) = true
    · have e1 : cnt (fun i => p (g i)) m = cnt (fun i => uN p (g m) false (g i)) m := cnt_congr (fun i hi9 => by
        show p (g i) = uN p (g m) false (g i)
        rw [uN_ne (fun q => by have := hj i m (by omega) (by omega) q; omega)])
      have e2 := ih (by omega) (uN p (g m) false)
      have e3 : cnt p M = cnt (uN p (g m) false) M + 1 := cnt_set (hg m (by omega)) (uN_at p (g m) false) hp (fun i _ hi9 => uN_ne hi9)
      rw [if_pos hp]
      omega
    · have := ih (by omega) p
      rw [if_neg hp]
      omega
theorem tk_sp : allF (fun f => allN (ns f) (fun i => Nat.beq (pos f (ko f (so f i)) (so f i)) i)) = true := by decide +kernel
theorem so_inj {f i j : Nat} (h1 : 1 ≤ f) (h6 : f ≤ 6) (hi9 : i < ns f) (hj : j < ns f) (h : so f i = so f j) : i = j := by
  have a := allN_of (allF_of tk_sp h1 h6) hi9
  have b := allN_of (allF_of tk_sp h1 h6) hj
  rw [Nat.beq_eq] at a b
  rw [← a, ← b, h]
theorem pcs_cnt (s : Stt) : ∀ n, (pcs s n).1 = cnt (fun i => ks s (so (sF s) i)) n := by
  intro n
  induction n with
  | zero => rfl
  | succ n ih =>
    cases h : ks s (so (sF s) n) with
    | true => rw [pcs_t h, cnt_t (p := fun i => ks s (so (sF s) i)) h, ← ih]
    | false => rw [pcs_f h, cnt_f (p := fun i => ks s (so (sF s) i)) h, ← ih]
theorem nw_cnt {s : Stt} (h1 : 1 ≤ sF s) (h6 : sF s ≤ 6) : nw s ≤ cnt (ks s) (ns (sF s)) := by
  unfold nw
  rw [pcs_cnt]
  exact cnt_row (fun i hi9 => (bd_s h1 h6 hi9).2.2.2) (fun i j hi9 hj h => so_inj h1 h6 hi9 hj h) _ (Nat.le_refl _) (ks s)
theorem tk_lz : allF (fun f => allN (nh f) (fun a => decide (-nI f ≤ hz f a))) = true := by decide +kernel
theorem kh_all {s : Stt} (h1 : 1 ≤ sF s) (h6 : sF s ≤ 6) (hl : sL s = -nI (sF s)) {a : Nat} (ha : a < nh (sF s)) : kh s a = true := by
  have h := allN_of (allF_of tk_lz h1 h6) ha
  unfold kh
  rw [hl]
  exact h
def inC (f i a : Nat) : Bool := Nat.beq a (co f (3 * i)) || (Nat.beq a (co f (3 * i + 1)) || Nat.beq a (co f (3 * i + 2)))
theorem tk_sf : allF (fun f => allN (nf f) (fun i => (inC f i (lo f (sd f (3 * i))) && inC f i (hi f (sd f (3 * i)))) && ((inC f i (lo f (sd f (3 * i + 1))) && inC f i (hi f (sd f (3 * i + 1)))) && (inC f i (lo f (sd f (3 * i + 2))) && inC f i (hi f (sd f (3 * i + 2))))))) = true := by decide +kernel
theorem inC_kh {s : Stt} {i a : Nat} (h : inC (sF s) i a = true) (hk : kf s i = true) : kh s a = true := by
  simp only [kf, Bool.and_eq_true] at hk
  simp only [inC, Bool.or_eq_true, Nat.beq_eq] at h
  rcases h with h | h | h
  · rw [h]; exact hk.1
  · rw [h]; exact hk.2.1
  · rw [h]; exact hk.2.2
/-- the sides of a kept face are kept -/
theorem sides_kept {s : Stt} (h1 : 1 ≤ sF s) (h6 : sF s ≤ 6) {i : Nat} (hi9 : i < nf (sF s)) (hk : kf s i = true) : ks s (sd (sF s) (3 * i)) = true ∧ ks s (sd (sF s) (3 * i + 1)) = true ∧ ks s (sd (sF s) (3 * i + 2)) = true := by
  have h := allN_of (allF_of tk_sf h1 h6) hi9
  simp only [Bool.and_eq_true] at h
  obtain ⟨⟨a1, a2⟩, ⟨b1, b2⟩, c1, c2⟩ := h
  refine ⟨?_, ?_, ?_⟩
  · simp only [ks, Bool.and_eq_true]; exact ⟨inC_kh a1 hk, inC_kh a2 hk⟩
  · simp only [ks, Bool.and_eq_true]; exact ⟨inC_kh b1 hk, inC_kh b2 hk⟩
  · simp only [ks, Bool.and_eq_true]; exact ⟨inC_kh c1 hk, inC_kh c2 hk⟩
-- the counts
theorem ct_1 (σ : Sig) : cntA σ 1 = 4 * cntA σ 0 * cntA σ 0 + 2 := by
  show nI (4 * sF σ.1 * sF σ.1 + 2) = nI 4 * nI (sF σ.1) * nI (sF σ.1) + nI 2
  rw [nI_mul, nI_mul, nI_add]
theorem ct_2 (σ : Sig) : cntA σ 2 = 12 * cntA σ 0 * cntA σ 0 := by
  show nI (12 * sF σ.1 * sF σ.1) = nI 12 * nI (sF σ.1) * nI (sF σ.1)
  rw [nI_mul, nI_mul]
theorem ct_3 (σ : Sig) : cntA σ 3 = 8 * cntA σ 0 * cntA σ 0 := by
  show nI (8 * sF σ.1 * sF σ.1) = nI 8 * nI (sF σ.1) * nI (sF σ.1)
  rw [nI_mul, nI_mul]
theorem ct_18 {σ : Sig} (h : okS σ.1) : cntA σ 18 ≤ 40 := by
  show nI _ ≤ nI 40
  have := h.2.2.2.2.2.2.2.2
  exact (nI_le_iff (by omega) (by omega)).mpr this
theorem eu_ok : allF (fun f => decide (nI (nh f) - nI (ns f) + nI (nf f) = 2)) = true := by decide +kernel
theorem ct_13 {σ : Sig} (h : okS σ.1) (hl : cntA σ 6 = -cntA σ 0) : cntA σ 13 = 2 ∧ cntA σ 10 = 0 := by
  have hl9 : sL σ.1 = -nI (sF σ.1) := hl
  obtain ⟨h1, h6, -⟩ := h
  have hk : ∀ a, a < nh (sF σ.1) → kh σ.1 a = true := fun a ha => kh_all h1 h6 hl9 ha
  have hs : ∀ i, i < ns (sF σ.1) → ks σ.1 i = true := fun i hi9 => by
    have b := bd_s h1 h6 hi9
    simp only [ks, Bool.and_eq_true]
    exact ⟨hk _ (by omega), hk _ b.2.1⟩
  have hf : ∀ i, i < nf (sF σ.1) → kf σ.1 i = true := fun i hi9 => by
    simp only [kf, Bool.and_eq_true]
    exact ⟨hk _ (bd_f h1 h6 (by omega)).1, hk _ (bd_f h1 h6 (by omega)).1, hk _ (bd_f h1 h6 (by omega)).1⟩
  constructor
  · show nI (cnt (kh σ.1) (nh (sF σ.1))) - nI (cnt (ks σ.1) (ns (sF σ.1))) + nI (cnt (kf σ.1) (nf (sF σ.1))) = 2
    rw [cnt_all hk, cnt_all hs, cnt_all hf]
    exact of_decide_eq_true (allF_of eu_ok h1 h6)
  · show nI (cnt (bh σ.1) (nh (sF σ.1))) = nI 0
    rw [cnt_non (p := bh σ.1) (fun a ha => ?_)]
    have b := bd_a h1 h6 ha
    unfold bh
    have : anyN (fun j => !kh σ.1 (lh (sF σ.1) (a * 6 + j))) (dg (sF σ.1) a) = false := by
      have key : ∀ n, n ≤ dg (sF σ.1) a → anyN (fun j => !kh σ.1 (lh (sF σ.1) (a * 6 + j))) n = false := by
        intro n
        induction n with
        | zero => intro _; rfl
        | succ n ih => intro hn; exact anyN_f (ih (by omega)) (by rw [hk _ (b.2 n (by omega)).1]; rfl)
      exact key _ (Nat.le_refl _)
    rw [this, Bool.and_false]
theorem ct_bd {σ : Sig} (h : okS σ.1) : cnt (kh σ.1) (nh (sF σ.1)) ≤ 146 ∧ cnt (ks σ.1) (ns (sF σ.1)) ≤ 432 ∧ cnt (kf σ.1) (nf (sF σ.1)) ≤ 288 ∧ cnt (fun i => ks σ.1 i && sM σ.1 i) (ns (sF σ.1)) ≤ 432 ∧ cnt (fun i => kf σ.1 i && !cf σ.1 i) (nf (sF σ.1)) ≤ 288 := by
  have b := bd_n h.1 h.2.1
  have c1 := cnt_le (kh σ.1) (nh (sF σ.1))
  have c2 := cnt_le (ks σ.1) (ns (sF σ.1))
  have c3 := cnt_le (kf σ.1) (nf (sF σ.1))
  have c4 := cnt_le (fun i => ks σ.1 i && sM σ.1 i) (ns (sF σ.1))
  have c5 := cnt_le (fun i => kf σ.1 i && !cf σ.1 i) (nf (sF σ.1))
  refine ⟨?_, ?_, ?_, ?_, ?_⟩ <;> omega
theorem ct_12 {σ : Sig} (h : okS σ.1) : cntA σ 12 ≤ cntA σ 9 := by
  have b := ct_bd h
  refine (nI_le_iff (by omega) (by omega)).mpr (cnt_imp (fun i _ q => ?_))
  rw [Bool.and_eq_true] at q
  exact q.1
theorem ct_11 {σ : Sig} (h : okS σ.1) : cntA σ 11 ≤ cntA σ 18 := by
  have b := ct_bd h
  have c := cnt_le (sM σ.1) 432
  have d := bd_n h.1 h.2.1
  refine (nI_le_iff (by omega) (by omega)).mpr (Nat.le_trans (cnt_imp (q := sM σ.1) (fun i _ q => ?_)) (cnt_mono d.2.1))
  rw [Bool.and_eq_true] at q
  exact q.2
theorem ct_11b {σ : Sig} (h : okS σ.1) (h0 : cntA σ 11 = 0) : cntA σ 12 ≤ 0 := by
  have b := ct_bd h
  have e0 : cnt (fun i => ks σ.1 i && sM σ.1 i) (ns (sF σ.1)) = 0 := (nI_inj (by omega) (by omega)).mp (show nI _ = nI 0 from h0)
  have e1 : cnt (fun i => kf σ.1 i && !cf σ.1 i) (nf (sF σ.1)) = 0 := by
    refine cnt_non (fun i hi9 => ?_)
    cases hk : kf σ.1 i with
    | false => rfl
    | true =>
      obtain ⟨k1, k2, k3⟩ := sides_kept h.1 h.2.1 hi9 hk
      have m : ∀ t, t < 3 * nf (sF σ.1) → ks σ.1 (sd (sF σ.1) t) = true → sM σ.1 (sd (sF σ.1) t) = false := fun t ht hkt => by
        have := cnt_0 e0 (sd (sF σ.1) t) (bd_f h.1 h.2.1 ht).2
        rw [hkt, Bool.true_and] at this
        exact this
      unfold cf
      rw [hk, m _ (by omega) k1, m _ (by omega) k2, m _ (by omega) k3]
      rfl
  show nI (cnt (fun i => kf σ.1 i && !cf σ.1 i) (nf (sF σ.1))) ≤ nI 0
  rw [e1]
  exact (nI_le_iff (by omega) (by omega)).mpr (Nat.le_refl 0)
-- the bars
theorem sk_neg {x : Nat} (hx : x < 2 ^ 31) : ¬ nI x < 0 := fun h => by
  have := Int32.lt_iff_toInt_lt.mp h
  rw [nI_toInt hx, Int32.toInt_zero] at this
  omega
theorem sk_at {s : Stt} {j : Nat} (hj : j ≤ 3) : aStk s (nI j) = if fitB s (sR s) (sB s) = true then stkA s j else -1002 := by
  unfold aStk
  have : wi (nI j) 0 3 = true := by
    simp only [wi, Bool.and_eq_true, decide_eq_true_eq]
    exact ⟨(nI_le_iff (by omega) (by omega)).mpr (Nat.zero_le _), (nI_le_iff (by omega) (by omega)).mpr hj⟩
  rw [if_pos this, ix_nI (by omega) (by omega)]
theorem mxN_ge {g : Nat → Nat} {n i : Nat} (hi9 : i < n) : g i ≤ mxN g n := by
  induction n with
  | zero => omega
  | succ n ih =>
    simp only [mxN]
    by_cases e : i = n
    · subst e
      split <;> omega
    · have := ih (by omega)
      split <;> omega
theorem smN_two {g : Nat → Nat} {B n : Nat} (h : ∀ i, i < n → g i ≤ B) : smN (fun i => B - g i) n + smN g n = n * B := by
  induction n with
  | zero => simp [smN]
  | succ n ih =>
    have h1 := ih (fun i hi9 => h i (by omega))
    have h2 := h n (by omega)
    simp only [smN]
    rw [Nat.succ_mul]
    omega
theorem sk_facts {s : Stt} (h : okS s) (hf : fitB s (sR s) (sB s) = true) :
    (swn s (sR s) (sB s) (sW s)).1 ≤ cnt (ks s) (ns (sF s)) ∧ (swn s (sR s) (sB s) (sW s)).1 ≤ 432 ∧ smN (fun i => lnS s (sR s) (kp s i)) (nw s) + smN (swn s (sR s) (sB s) (sW s)).2.1 (swn s (sR s) (sB s) (sW s)).1 ≤ (swn s (sR s) (sB s) (sW s)).1 * sB s ∧ (0 < cnt (ks s) (ns (sF s)) → 1 ≤ mxN (swn s (sR s) (sB s) (sW s)).2.2.1 (swn s (sR s) (sB s) (sW s)).1) ∧ mxN (swn s (sR s) (sB s) (sW s)).2.2.1 (swn s (sR s) (sB s) (sW s)).1 ≤ 432 := by
  obtain ⟨h1, h6, hR, hR2, hB, hB2, hS, -, -⟩ := h
  have hfit : fits s (sR s) (sB s) := of_decide_eq_true hf
  have hk := fits_ok h1 h6 hR hR2 hfit
  have hv := saw_inv (S := sW s) (show 1 ≤ sB s by omega) hk (nw s) (Nat.le_refl _)
  have hle := swn_le (S := sW s) h1 h6 hR hR2 (by omega) hfit
  have hn := nw_cnt h1 h6
  have hb := bd_n h1 h6
  unfold swn at *
  obtain ⟨v1, v2, v3, -⟩ := hv
  have h2 := smN_two (g := (sawP (sB s) (sW s) (lnS s (sR s)) (kp s) (nw s)).2.1) (B := sB s) (n := (sawP (sB s) (sW s) (lnS s (sR s)) (kp s) (nw s)).1) (fun b hb9 => (v2 b hb9).1)
  refine ⟨by omega, by omega, ?_, fun hc => ?_, ?_⟩
  · omega
  · have hnw : 0 < nw s := by
      rcases Nat.eq_zero_or_pos (nw s) with q | q
      · exfalso
        have : cnt (ks s) (ns (sF s)) = 0 := cnt_non (fun k hk9 => by
          cases hks : ks s k with
          | false => rfl
          | true =>
            obtain ⟨j, hj, -⟩ := kp_all h1 h6 hk9 hks
            omega)
        omega
      · exact q
    have hs1 : 1 ≤ smN (fun i => lnS s (sR s) (kp s i)) (nw s) := by
      obtain ⟨m, hm⟩ : ∃ m, nw s = m + 1 := ⟨nw s - 1, by omega⟩
      rw [hm]
      simp only [smN]
      have := (hk m (by omega)).1
      omega
    have hb0 : 0 < (sawP (sB s) (sW s) (lnS s (sR s)) (kp s) (nw s)).1 := by
      rcases Nat.eq_zero_or_pos (sawP (sB s) (sW s) (lnS s (sR s)) (kp s) (nw s)).1 with q | q
      · rw [q] at v3
        simp only [smN] at v3
        omega
      · exact q
    exact Nat.le_trans (v2 0 hb0).2.1 (mxN_ge hb0)
  · exact mxN_le (fun b hb9 => by have := (v2 b hb9).2.2; omega)
theorem sk_fit {s : Stt} (h : ¬ aStk s (nI 0) < 0) : fitB s (sR s) (sB s) = true := by
  rw [sk_at (by omega)] at h
  by_cases q : fitB s (sR s) (sB s) = true
  · exact q
  · rw [if_neg q] at h
    exact absurd (by decide) h
theorem sk_a {σ : Sig} (h : okS σ.1) (h0 : ¬ aStk σ.1 (nI 0) < 0) : lg_cmp ((aStk σ.1 (nI 3)).toInt64 + (aStk σ.1 (nI 1)).toInt64) ((aStk σ.1 (nI 0)).toInt64 * (cntA σ 14).toInt64) ≤ 0 := by
  have hf := sk_fit h0
  obtain ⟨f1, f2, f3, f4, f5⟩ := sk_facts h hf
  have hB := h.2.2.2.2.2.1
  rw [sk_at (by omega), sk_at (by omega), sk_at (by omega), if_pos hf, if_pos hf, if_pos hf]
  have hm : (swn σ.1 (sR σ.1) (sB σ.1) (sW σ.1)).1 * sB σ.1 ≤ 432 * 20000 := Nat.mul_le_mul f2 hB
  show lg_cmp ((nI (smN (fun i => lnS σ.1 (sR σ.1) (kp σ.1 i)) (nw σ.1))).toInt64 + (nI (smN (swn σ.1 (sR σ.1) (sB σ.1) (sW σ.1)).2.1 (swn σ.1 (sR σ.1) (sB σ.1) (sW σ.1)).1)).toInt64) ((nI (swn σ.1 (sR σ.1) (sB σ.1) (sW σ.1)).1).toInt64 * (nI (sB σ.1)).toInt64) ≤ 0
  rw [nI_l (by omega), nI_l (by omega), nI_l (by omega), nI_l (by omega), lN_mul, lN_add, lg_cmp_le, lN_le63 (by omega) (by omega)]
  exact f3
theorem sk_b {σ : Sig} (h : okS σ.1) (h0 : ¬ aStk σ.1 (nI 0) < 0) : aStk σ.1 (nI 0) ≤ cntA σ 8 := by
  have hf := sk_fit h0
  obtain ⟨f1, f2, f3, f4, f5⟩ := sk_facts h hf
  rw [sk_at (by omega), if_pos hf]
  have b := ct_bd h
  exact (nI_le_iff (by omega) (by omega)).mpr f1
theorem sk_c {σ : Sig} (h : okS σ.1) (h0 : ¬ aStk σ.1 (nI 0) < 0) (h8 : ¬ cntA σ 8 ≤ 0) : 1 ≤ aStk σ.1 (nI 2) := by
  have hf := sk_fit h0
  obtain ⟨f1, f2, f3, f4, f5⟩ := sk_facts h hf
  rw [sk_at (by omega), if_pos hf]
  have b := ct_bd h
  refine (nI_le_iff (a := 1) (by omega) (by omega)).mpr (f4 ?_)
  rcases Nat.eq_zero_or_pos (cnt (ks σ.1) (ns (sF σ.1))) with q | q
  · exfalso
    refine h8 ?_
    show nI (cnt (ks σ.1) (ns (sF σ.1))) ≤ nI 0
    rw [q]
    exact (nI_le_iff (by omega) (by omega)).mpr (Nat.le_refl 0)
  · exact q
-- the worst
theorem ws_some {s : Stt} : ∀ n w, wst s n = some w → w < n ∧ ks s w = true ∧ sM s w = false := by
  intro n
  induction n with
  | zero => intro w h; cases h
  | succ n ih =>
    intro w h
    simp only [wst] at h
    by_cases c : (ks s n && !sM s n) = true
    · rw [if_pos c] at h
      have c2 : ks s n = true ∧ sM s n = false := by
        rw [Bool.and_eq_true] at c
        exact ⟨c.1, by simpa using c.2⟩
      cases e : wst s n with
      | none =>
        rw [e] at h
        cases h
        exact ⟨by omega, c2⟩
      | some v =>
        rw [e] at h
        dsimp only at h
        have hv := ih v e
        by_cases q : clo s v < clo s n
        · rw [if_pos q] at h
          cases h
          exact ⟨by omega, c2⟩
        · rw [if_neg q] at h
          cases h
          exact ⟨by omega, hv.2⟩
    · rw [if_neg c] at h
      have := ih w h
      exact ⟨by omega, this.2⟩
theorem ws_none {s : Stt} : ∀ n, wst s n = none → ∀ i, i < n → ks s i = true → sM s i = true := by
  intro n
  induction n with
  | zero => intro _ i hi9; omega
  | succ n ih =>
    intro h i hi9 hk
    simp only [wst] at h
    by_cases c : (ks s n && !sM s n) = true
    · rw [if_pos c] at h
      cases e : wst s n with
      | none => rw [e] at h; cases h
      | some v =>
        rw [e] at h
        dsimp only at h
        split at h <;> cases h
    · rw [if_neg c] at h
      by_cases q : i = n
      · subst q
        cases hm : sM s i with
        | true => rfl
        | false => rw [hk, hm] at c; exact absurd rfl c
      · exact ih h i (by omega) hk
theorem so_at {s : Stt} {k j : Nat} (hk : k < ns (sF s)) (hs : ns (sF s) ≤ 432) (hj : j ≤ 8) : aStrutOf s (nI k) (nI j) = strA s k j := by
  unfold aStrutOf
  rw [if_pos (inN_nI hk (by omega)), ix_nI (by omega) (by omega), nI_clamp (by omega)]
theorem wo_a {s : Stt} (h : okS s) (h0 : ¬ aWorst s < 0) : aStrutOf s (aWorst s) (nI 4) = 1 ∧ aStrutOf s (aWorst s) (nI 5) = 0 := by
  have hb := bd_n h.1 h.2.1
  unfold aWorst at *
  cases e : wst s (ns (sF s)) with
  | none => rw [e] at h0; exact absurd (by decide) h0
  | some w =>
    obtain ⟨w1, w2, w3⟩ := ws_some _ w e
    show aStrutOf s (nI w) (nI 4) = 1 ∧ aStrutOf s (nI w) (nI 5) = 0
    rw [so_at w1 hb.2.1 (by omega), so_at w1 hb.2.1 (by omega)]
    show b2i (ks s w) = 1 ∧ b2i (sM s w) = 0
    rw [w2, w3]
    exact ⟨rfl, rfl⟩
theorem wo_b {σ : Sig} (h : okS σ.1) (h0 : aWorst σ.1 < 0) : cntA σ 8 ≤ cntA σ 11 := by
  have hb := bd_n h.1 h.2.1
  have c := ct_bd h
  unfold aWorst at h0
  cases e : wst σ.1 (ns (sF σ.1)) with
  | none =>
    refine (nI_le_iff (by omega) (by omega)).mpr (cnt_imp (fun i hi9 hk => ?_))
    rw [hk, ws_none _ e i hi9 hk]
    rfl
  | some w =>
    rw [e] at h0
    have := (ws_some _ w e).1
    exact absurd h0 (sk_neg (by omega))
-- the radius
theorem pcs_rad (s : Stt) (R : Nat) : ∀ n, pcs (sF s, R, sL s, sB s, sW s, sM s) n = pcs s n := by
  intro n
  induction n with
  | zero => rfl
  | succ n ih =>
    simp only [pcs]
    rw [ih]
    rfl
theorem swn_rad (s : Stt) (R0 R B S : Nat) : swn (sF s, R0, sL s, sB s, sW s, sM s) R B S = swn s R B S := by
  unfold swn nw kp
  rw [show pcs (sF s, R0, sL s, sB s, sW s, sM s) (ns (sF (sF s, R0, sL s, sB s, sW s, sM s))) = pcs s (ns (sF s)) from pcs_rad s R0 _]
  rfl
theorem rdn_some {p : Nat → Bool} : ∀ n r, rdn p n = some r → r < n ∧ p r = true := by
  intro n
  induction n with
  | zero => intro r h; cases h
  | succ n ih =>
    intro r h
    simp only [rdn] at h
    by_cases c : p n = true
    · rw [if_pos c] at h
      cases h
      exact ⟨by omega, c⟩
    · rw [if_neg c] at h
      have := ih r h
      exact ⟨by omega, this.2⟩
theorem rf_ok {σ : Sig} {b : Int32} (h : okS σ.1) (h0 : ¬ aRadFor σ.1 b < 0) : ¬ (aRad σ (aRadFor σ.1 b)).1 < 0 ∧ aStk (aRad σ (aRadFor σ.1 b)).2.1 (nI 0) ≤ b ∧ ¬ aStk (aRad σ (aRadFor σ.1 b)).2.1 (nI 0) < 0 := by
  unfold aRadFor at *
  by_cases hw : wi b 1 1000 = true
  · rw [if_pos hw] at h0 ⊢
    obtain ⟨m, m1, m2, rfl⟩ := wi_of (by omega) (by omega) hw
    rw [nI_clamp (by omega)] at h0 ⊢
    cases e : rdn (rfP σ.1 m) 2001 with
    | none => rw [e] at h0; exact absurd (by decide) h0
    | some R =>
      obtain ⟨r1, r2⟩ := rdn_some _ _ e
      simp only [rfP, enough, Bool.and_eq_true, decide_eq_true_eq] at r2
      obtain ⟨q1, q2, q3⟩ := r2
      show ¬ (aRad σ (nI R)).1 < 0 ∧ aStk (aRad σ (nI R)).2.1 (nI 0) ≤ nI m ∧ ¬ aStk (aRad σ (nI R)).2.1 (nI 0) < 0
      have hR : wi (nI R) 10 2000 = true := by
        simp only [wi, Bool.and_eq_true, decide_eq_true_eq]
        exact ⟨(nI_le_iff (by omega) (by omega)).mpr q1, (nI_le_iff (by omega) (by omega)).mpr (by omega)⟩
      have er : aRad σ (nI R) = (nI (sR σ.1), ((sF σ.1, R, sL σ.1, sB σ.1, sW σ.1, sM σ.1), hpush σ.2.1 σ.1, σ.2.2)) := by
        unfold aRad
        rw [if_pos hR, nI_clamp (by omega)]
      rw [er]
      have hs : aStk (sF σ.1, R, sL σ.1, sB σ.1, sW σ.1, sM σ.1) (nI 0) = nI (swn σ.1 R (sB σ.1) (sW σ.1)).1 := by
        rw [sk_at (by omega)]
        refine (if_pos (show fitB (sF σ.1, R, sL σ.1, sB σ.1, sW σ.1, sM σ.1) R (sB σ.1) = true from decide_eq_true q2)).trans ?_
        show nI (swn (sF σ.1, R, sL σ.1, sB σ.1, sW σ.1, sM σ.1) R (sB σ.1) (sW σ.1)).1 = _
        rw [swn_rad]
      show ¬ nI (sR σ.1) < 0 ∧ aStk (sF σ.1, R, sL σ.1, sB σ.1, sW σ.1, sM σ.1) (nI 0) ≤ nI m ∧ ¬ aStk (sF σ.1, R, sL σ.1, sB σ.1, sW σ.1, sM σ.1) (nI 0) < 0
      rw [hs]
      have hr := h.2.2.2.1
      exact ⟨sk_neg (by omega), (nI_le_iff (by omega) (by omega)).mpr q3, sk_neg (by omega)⟩
  · rw [if_neg hw] at h0
    exact absurd (by decide) h0
