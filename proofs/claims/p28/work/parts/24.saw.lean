/-! SAWING, in numbers: first fit; what a bar gives at most; lengths grow with the kinds -/
def uN {α : Type} (f : Nat → α) (j : Nat) (v : α) : Nat → α := fun i => if i = j then v else f i
theorem uN_at {α : Type} (f : Nat → α) (j : Nat) (v : α) : uN f j v j = v := if_pos rfl
theorem uN_ne {α : Type} {f : Nat → α} {j i : Nat} {v : α} (h : ¬ i = j) : uN f j v i = f i := if_neg h
/-- bars begun, what is left in each, how many pieces of each, the bar of each strut -/
abbrev FS : Type := Nat × (Nat → Nat) × (Nat → Nat) × (Nat → Nat)
def ffit (lf : Nat → Nat) (need n : Nat) : Nat := (fst (fun b => decide (need ≤ lf b)) n).getD n
def sawS (B S need k : Nat) (x : FS) : FS :=
  if ffit x.2.1 need x.1 = x.1 then (x.1 + 1, uN x.2.1 x.1 (B - need - S), uN x.2.2.1 x.1 1, uN x.2.2.2 k x.1)
  else (x.1, uN x.2.1 (ffit x.2.1 need x.1) (x.2.1 (ffit x.2.1 need x.1) - need - S), uN x.2.2.1 (ffit x.2.1 need x.1) (x.2.2.1 (ffit x.2.1 need x.1) + 1), uN x.2.2.2 k (ffit x.2.1 need x.1))
def saw0 : FS := (0, fun _ => 0, fun _ => 0, fun _ => 0)
/-- the first w of the pieces P, with the lengths l -/
def sawP (B S : Nat) (l P : Nat → Nat) : Nat → FS
  | 0 => saw0
  | w + 1 => sawS B S (l (P w)) (P w) (sawP B S l P w)
def smN (g : Nat → Nat) : Nat → Nat
  | 0 => 0
  | n + 1 => smN g n + g n
theorem smN_congr {g h : Nat → Nat} {n : Nat} (e : ∀ i, i < n → g i = h i) : smN g n = smN h n := by
  induction n with
  | zero => rfl
  | succ n ih => simp only [smN]; rw [ih (fun i hi9 => e i (by omega)), e n (by omega)]
theorem smN_le {g h : Nat → Nat} {n : Nat} (e : ∀ i, i < n → g i ≤ h i) : smN g n ≤ smN h n := by
  induction n with
  | zero => exact Nat.le_refl 0
  | succ n ih =>
    have h1 := ih (fun i hi9 => e i (by omega))
    have h2 := e n (by omega)
    simp only [smN]; omega
theorem smN_const (c : Nat) : ∀ n, smN (fun _ => c) n = n * c := by
  intro n
  induction n with
  | zero => simp [smN]
  | succ n ih => simp only [smN]; rw [ih, Nat.succ_mul]
theorem smN_upd {g : Nat → Nat} {n j v : Nat} (hj : j < n) : smN (uN g j v) n + g j = smN g n + v := by
  induction n with
  | zero => omega
  | succ n ih =>
    simp only [smN]
    by_cases e : j = n
    · subst e
      rw [uN_at, smN_congr (g := uN g j v) (h := g) (fun i hi9 => uN_ne (by omega))]
      omega
    · have := ih (by omega)
      rw [uN_ne (fun q => e q.symm)]
      omega
theorem ffit_le (lf : Nat → Nat) (need n : Nat) : ffit lf need n ≤ n := by
  unfold ffit
  cases h : fst (fun b => decide (need ≤ lf b)) n with
  | none => exact Nat.le_refl n
  | some i => exact Nat.le_of_lt (fst_lt h).1
theorem ffit_fits {lf : Nat → Nat} {need n : Nat} (h : ¬ ffit lf need n = n) : ffit lf need n < n ∧ need ≤ lf (ffit lf need n) := by
  unfold ffit at *
  cases h2 : fst (fun b => decide (need ≤ lf b)) n with
  | none => rw [h2] at h; exact absurd rfl h
  | some i =>
    have := fst_lt h2
    exact ⟨this.1, by simpa using this.2⟩
/-- scanning from place i on, with nothing that fits below i -/
theorem ffit_here {lf : Nat → Nat} {need n i : Nat} (hi9 : i < n) (hz9 : ∀ j, j < i → lf j < need) (h : need ≤ lf i) : ffit lf need n = i := by
  unfold ffit
  have h0 : fst (fun b => decide (need ≤ lf b)) i = none := by
    have : ∀ m, m ≤ i → fst (fun b => decide (need ≤ lf b)) m = none := by
      intro m
      induction m with
      | zero => intro _; rfl
      | succ m ih => intro hm; exact fst_n (ih (by omega)) (by have := hz9 m (by omega); simp; omega)
    exact this i (Nat.le_refl i)
  rw [fst_s h0 (by simpa using h) hi9]
  rfl
theorem ffit_none {lf : Nat → Nat} {need n : Nat} (hz9 : ∀ j, j < n → lf j < need) : ffit lf need n = n := by
  unfold ffit
  have h0 : fst (fun b => decide (need ≤ lf b)) n = none := by
    have : ∀ m, m ≤ n → fst (fun b => decide (need ≤ lf b)) m = none := by
      intro m
      induction m with
      | zero => intro _; rfl
      | succ m ih => intro hm; exact fst_n (ih (by omega)) (by have := hz9 m (by omega); simp; omega)
    exact this n (Nat.le_refl n)
  rw [h0]
  rfl
theorem ffit_below {lf : Nat → Nat} {need n j : Nat} (h : j < ffit lf need n) : lf j < need := by
  rcases Nat.lt_or_ge (lf j) need with q | q
  · exact q
  · exfalso
    have hle := ffit_le lf need n
    have key : ∀ m, m ≤ j → (∀ i, i < m → lf i < need) ∨ ffit lf need n < m := by
      intro m
      induction m with
      | zero => intro _; left; intro i hi9; omega
      | succ m ih =>
        intro hm
        rcases ih (by omega) with h1 | h1
        · rcases Nat.lt_or_ge (lf m) need with q2 | q2
          · left
            intro i hi9
            by_cases e : i = m
            · rw [e]; exact q2
            · exact h1 i (by omega)
          · right
            rw [ffit_here (by omega) h1 q2]
            omega
        · right; omega
    rcases key j (Nat.le_refl j) with h1 | h1
    · have := ffit_here (n := n) (by omega) h1 q
      omega
    · omega
/-- what a bar has given at most -/
def gB (B S x : Nat) : Nat := if 0 < x then B - x else B + S
/-- what holds of every sawing of pieces of 1 to B -/
theorem saw_inv {B S : Nat} {l P : Nat → Nat} {n : Nat} (hB : 1 ≤ B) (hl9 : ∀ w, w < n → 1 ≤ l (P w) ∧ l (P w) ≤ B) : ∀ w, w ≤ n →
    (sawP B S l P w).1 ≤ w ∧ (∀ b, b < (sawP B S l P w).1 → (sawP B S l P w).2.1 b ≤ B ∧ 1 ≤ (sawP B S l P w).2.2.1 b ∧ (sawP B S l P w).2.2.1 b ≤ w) ∧
    smN (fun i => l (P i)) w ≤ smN (fun b => B - (sawP B S l P w).2.1 b) (sawP B S l P w).1 ∧
    smN (fun i => l (P i) + S) w ≤ smN (fun b => gB B S ((sawP B S l P w).2.1 b)) (sawP B S l P w).1 := by
  intro w
  induction w with
  | zero => intro _; exact ⟨Nat.le_refl 0, fun b hb => absurd hb (Nat.not_lt_zero b), Nat.le_refl 0, Nat.le_refl 0⟩
  | succ w ih =>
    intro hw
    obtain ⟨i1, i2, i3, i4⟩ := ih (by omega)
    obtain ⟨l1, l2⟩ := hl9 w (by omega)
    rw [show smN (fun i => l (P i)) (w + 1) = smN (fun i => l (P i)) w + l (P w) from rfl, show smN (fun i => l (P i) + S) (w + 1) = smN (fun i => l (P i) + S) w + (l (P w) + S) from rfl, show sawP B S l P (w + 1) = sawS B S (l (P w)) (P w) (sawP B S l P w) from rfl]
    generalize sawP B S l P w = x at i1 i2 i3 i4 ⊢
    generalize P w = kk at l1 l2 ⊢
    generalize l kk = need at l1 l2 ⊢
    unfold sawS
    by_cases hf : ffit x.2.1 need x.1 = x.1
    · rw [if_pos hf]
      dsimp only
      refine ⟨by omega, fun b hb => ?_, ?_, ?_⟩
      · by_cases e : b = x.1
        · rw [e, uN_at, uN_at]; omega
        · rw [uN_ne e, uN_ne e]
          have := i2 b (by omega)
          omega
      · simp only [smN]
        rw [uN_at, smN_congr (g := fun b => B - uN x.2.1 x.1 (B - need - S) b) (h := fun b => B - x.2.1 b) (fun b hb => by rw [uN_ne (by omega)])]
        omega
      · simp only [smN]
        rw [uN_at, smN_congr (g := fun b => gB B S (uN x.2.1 x.1 (B - need - S) b)) (h := fun b => gB B S (x.2.1 b)) (fun b hb => by rw [uN_ne (by omega)])]
        have : need + S ≤ gB B S (B - need - S) := by unfold gB; split <;> omega
        omega
    · rw [if_neg hf]
      dsimp only
      obtain ⟨f1, f2⟩ := ffit_fits hf
      generalize ffit x.2.1 need x.1 = b0 at *
      have b1 := i2 b0 f1
      refine ⟨by omega, fun b hb => ?_, ?_, ?_⟩
      · by_cases e : b = b0
        · rw [e, uN_at, uN_at]; omega
        · rw [uN_ne e, uN_ne e]
          have := i2 b hb
          omega
      · have e1 : (fun b => B - uN x.2.1 b0 (x.2.1 b0 - need - S) b) = uN (fun b => B - x.2.1 b) b0 (B - (x.2.1 b0 - need - S)) := by
          funext b
          by_cases e : b = b0
          · rw [e, uN_at, uN_at]
          · rw [uN_ne e, uN_ne e]
        rw [e1]
        have := smN_upd (g := fun b => B - x.2.1 b) (v := B - (x.2.1 b0 - need - S)) f1
        omega
      · have e1 : (fun b => gB B S (uN x.2.1 b0 (x.2.1 b0 - need - S) b)) = uN (fun b => gB B S (x.2.1 b)) b0 (gB B S (x.2.1 b0 - need - S)) := by
          funext b
          by_cases e : b = b0
          · rw [e, uN_at, uN_at]
          · rw [uN_ne e, uN_ne e]
        rw [e1]
        have := smN_upd (g := fun b => gB B S (x.2.1 b)) (v := gB B S (x.2.1 b0 - need - S)) f1
        have g1 : gB B S (x.2.1 b0) + need + S ≤ gB B S (x.2.1 b0 - need - S) := by
          unfold gB
          rw [if_pos (show 0 < x.2.1 b0 by omega)]
          split <;> omega
        omega
/-- enough bars: two sums that must fit -/
theorem saw_fits {B S : Nat} {l P : Nat → Nat} {n m : Nat} (hB : 1 ≤ B) (hl9 : ∀ w, w < n → 1 ≤ l (P w) ∧ l (P w) ≤ B) (h : (sawP B S l P n).1 ≤ m) :
    smN (fun i => l (P i)) n ≤ B * m ∧ smN (fun i => l (P i)) n + n * S ≤ m * (B + S) := by
  obtain ⟨-, i2, i3, i4⟩ := saw_inv (S := S) hB hl9 n (Nat.le_refl n)
  have h1 : smN (fun b => B - (sawP B S l P n).2.1 b) (sawP B S l P n).1 ≤ (sawP B S l P n).1 * B := by
    rw [← smN_const]
    exact smN_le (fun b _ => Nat.sub_le _ _)
  have h2 : smN (fun b => gB B S ((sawP B S l P n).2.1 b)) (sawP B S l P n).1 ≤ (sawP B S l P n).1 * (B + S) := by
    rw [← smN_const]
    refine smN_le (fun b _ => ?_)
    unfold gB
    split <;> omega
  have h3 : smN (fun i => l (P i) + S) n = smN (fun i => l (P i)) n + n * S := by
    have : ∀ k, smN (fun i => l (P i) + S) k = smN (fun i => l (P i)) k + k * S := by
      intro k
      induction k with
      | zero => simp [smN]
      | succ k ih => simp only [smN]; rw [ih, Nat.succ_mul]; omega
    exact this n
  have h4 : (sawP B S l P n).1 * B ≤ m * B := Nat.mul_le_mul_right _ h
  have h5 : (sawP B S l P n).1 * (B + S) ≤ m * (B + S) := Nat.mul_le_mul_right _ h
  rw [Nat.mul_comm B m]
  omega
-- lengths
theorem rch_anti {f q R x y : Nat} (h : rch f q R x = true) (hy9 : y ≤ x) : rch f q R y = true := by
  simp only [rch, Bool.and_eq_true, decide_eq_true_eq] at *
  have h1 : y * y ≤ x * x := Nat.mul_le_mul hy9 hy9
  refine ⟨by omega, Nat.le_trans h.2 ?_⟩
  have h2 : 2 * R * R - x * x ≤ 2 * R * R - y * y := by omega
  exact Nat.mul_le_mul_right _ (Nat.mul_le_mul h2 h2)
theorem tk_q2 : allF (fun f => allN (nk f) (fun q => Nat.ble (qn f q * qn f q) (qd f q) && (Nat.ble (200 * 200 * (qn f q * qn f q)) (199 * 199 * qd f q) && allN (q + 1) (fun q2 => Nat.ble (qn f q * qn f q * qd f q2) (qn f q2 * qn f q2 * qd f q))))) = true := by decide +kernel
theorem bd_q2 {f q : Nat} (h1 : 1 ≤ f) (h6 : f ≤ 6) (hq : q < nk f) : qn f q * qn f q ≤ qd f q ∧ 200 * 200 * (qn f q * qn f q) ≤ 199 * 199 * qd f q ∧ ∀ q2, q2 ≤ q → qn f q * qn f q * qd f q2 ≤ qn f q2 * qn f q2 * qd f q := by
  have h2 := allN_of (allF_of tk_q2 h1 h6) hq
  simp only [Bool.and_eq_true, Nat.ble_eq] at h2
  refine ⟨h2.1, h2.2.1, fun q2 hq2 => ?_⟩
  have h3 := allN_of h2.2.2 (i := q2) (by omega)
  simpa using h3
theorem rch_0 {f q R : Nat} (h1 : 1 ≤ f) (h6 : f ≤ 6) (hq : q < nk f) : rch f q R 0 = true := by
  simp only [rch, Bool.and_eq_true, decide_eq_true_eq]
  refine ⟨by omega, ?_⟩
  rw [Nat.zero_mul, Nat.sub_zero, Nat.mul_assoc]
  exact Nat.mul_le_mul_left _ (bd_q2 h1 h6 hq).1
theorem lenD_spec {p : Nat → Bool} (ha : ∀ x y, p x = true → y ≤ x → p y = true) : ∀ j l, p l = true → p (l + 2 ^ j) = false → p (lenD p j l) = true ∧ p (lenD p j l + 1) = false := by
  intro j
  induction j with
  | zero => intro l h1 h2; exact ⟨h1, h2⟩
  | succ j ih =>
    intro l h1 h2
    have e : 2 ^ (j + 1) = 2 ^ j + 2 ^ j := by rw [Nat.pow_succ]; omega
    simp only [lenD]
    by_cases hp : p (l + 2 ^ j) = true
    · rw [if_pos hp]
      exact ih _ hp (by rw [← h2, e, Nat.add_assoc])
    · rw [if_neg hp]
      exact ih _ h1 (by simpa using hp)
theorem len_iff {f q R x : Nat} (h1 : 1 ≤ f) (h6 : f ≤ 6) (hq : q < nk f) (hR : R ≤ 2000) : rch f q R x = true ↔ x ≤ len f q R := by
  have hb : rch f q R (0 + 2 ^ 12) = false := by
    have : 2 * R * R ≤ 8000000 := by
      have := Nat.mul_le_mul (Nat.mul_le_mul (Nat.le_refl 2) hR) hR
      omega
    simp only [rch, Bool.and_eq_false_iff, decide_eq_false_iff_not]
    left
    omega
  obtain ⟨a1, a2⟩ := lenD_spec (p := rch f q R) (fun x y h hy9 => rch_anti h hy9) 12 0 (rch_0 h1 h6 hq) hb
  constructor
  · intro h
    rcases Nat.lt_or_ge (len f q R) x with c | c
    · have := rch_anti h (show len f q R + 1 ≤ x by omega)
      rw [show len f q R + 1 = lenD (rch f q R) 12 0 + 1 from rfl, a2] at this
      cases this
    · exact c
  · intro h
    exact rch_anti a1 h
theorem len_mono {f q q2 R : Nat} (h1 : 1 ≤ f) (h6 : f ≤ 6) (hq : q < nk f) (hqq : q2 ≤ q) (hR : R ≤ 2000) : len f q2 R ≤ len f q R := by
  rw [← len_iff h1 h6 hq hR]
  have h := (len_iff (x := len f q2 R) h1 h6 (Nat.lt_of_le_of_lt hqq hq) hR).mpr (Nat.le_refl _)
  simp only [rch, Bool.and_eq_true, decide_eq_true_eq] at *
  refine ⟨h.1, ?_⟩
  have hm := (bd_q2 h1 h6 hq).2.2 q2 hqq
  have hd := (bd_q h1 h6 (Nat.lt_of_le_of_lt hqq hq)).2.2
  generalize (2 * R * R - len f q2 R * len f q2 R) * (2 * R * R - len f q2 R * len f q2 R) = X at *
  generalize 2 * R * R * (2 * R * R) = T at *
  have e1 : T * (qn f q2 * qn f q2 * qd f q) ≤ X * qd f q2 * qd f q := by
    rw [← Nat.mul_assoc, ← Nat.mul_assoc]
    exact Nat.mul_le_mul_right _ h.2
  have e2 : T * (qn f q * qn f q * qd f q2) ≤ X * qd f q2 * qd f q := Nat.le_trans (Nat.mul_le_mul_left _ hm) e1
  have e3 : (T * qn f q * qn f q) * qd f q2 ≤ (X * qd f q) * qd f q2 := by
    rw [Nat.mul_right_comm X, Nat.mul_assoc T, Nat.mul_assoc T]
    exact e2
  exact Nat.le_of_mul_le_mul_right e3 (by omega)
theorem len_pos {f q R : Nat} (h1 : 1 ≤ f) (h6 : f ≤ 6) (hq : q < nk f) (hR : 10 ≤ R) (hR2 : R ≤ 2000) : 1 ≤ len f q R := by
  rw [← len_iff h1 h6 hq hR2]
  simp only [rch, Bool.and_eq_true, decide_eq_true_eq]
  have hT : 200 ≤ 2 * R * R := by
    have := Nat.mul_le_mul (Nat.mul_le_mul (Nat.le_refl 2) hR) hR
    omega
  refine ⟨by omega, ?_⟩
  have hm := (bd_q2 h1 h6 hq).2.1
  generalize 2 * R * R = T at *
  have hN : T * T * qn f q * qn f q = T * T * (qn f q * qn f q) := Nat.mul_assoc _ _ _
  rw [hN]
  have a : 199 * T ≤ 200 * (T - 1 * 1) := by omega
  have b : (199 * T) * (199 * T) ≤ (200 * (T - 1 * 1)) * (200 * (T - 1 * 1)) := Nat.mul_le_mul a a
  generalize T - 1 * 1 = Y at *
  generalize qd f q = D at *
  generalize qn f q * qn f q = N at *
  have c1 : (T * T) * (200 * 200 * N) ≤ (T * T) * (199 * 199 * D) := Nat.mul_le_mul_left _ hm
  have c2 : (199 * T) * (199 * T) * D ≤ (200 * Y) * (200 * Y) * D := Nat.mul_le_mul_right _ b
  have c3 : (T * T * N) * (200 * 200) ≤ (Y * Y * D) * (200 * 200) := by
    have e1 : (T * T) * (200 * 200 * N) = (T * T * N) * (200 * 200) := by ac_rfl
    have e2 : (T * T) * (199 * 199 * D) = (199 * T) * (199 * T) * D := by ac_rfl
    have e3 : (200 * Y) * (200 * Y) * D = (Y * Y * D) * (200 * 200) := by ac_rfl
    rw [e1, e2] at c1
    rw [e3] at c2
    exact Nat.le_trans c1 c2
  exact Nat.le_of_mul_le_mul_right c3 (by decide)
theorem pk_max0 {x S : Nat} (hx9 : x < 2 ^ 30) (hS : S < 2 ^ 30) : (if nI 0 < nI x - nI S then nI x - nI S else nI 0) = nI (x - S) := by
  by_cases h : S ≤ x
  · rw [nI_sub h]
    by_cases e : 0 < x - S
    · rw [if_pos ((nI_lt_iff (by omega) (by omega)).mpr e)]
    · rw [if_neg (fun q => e ((nI_lt_iff (by omega) (by omega)).mp q)), show x - S = 0 by omega]
  · rw [if_neg, show x - S = 0 by omega]
    rw [Int32.lt_iff_toInt_lt, pk_sub_toInt hx9 hS, nI_toInt (by omega)]
    omega
