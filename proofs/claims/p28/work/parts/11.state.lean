/-! WHAT A STATE IS, and what the class's world says of it -/
theorem up_ind {N : Nat} {P : Nat → Prop} (h : ∀ i, i ≤ N → (i < N → P (i + 1)) → P i) : ∀ i, i ≤ N → P i := by
  have key : ∀ n i, i + n = N → P i := by
    intro n
    induction n with
    | zero => intro i hi; exact h i (by omega) (fun q => by omega)
    | succ n ih => intro i hi; exact h i (by omega) (fun _ => ih (i + 1) (by omega))
  exact fun i hi => key (N - i) i (by omega)
def cnt (p : Nat → Bool) : Nat → Nat
  | 0 => 0
  | n + 1 => cnt p n + (if p n then 1 else 0)
theorem cnt_le (p : Nat → Bool) : ∀ n, cnt p n ≤ n := by
  intro n
  induction n with
  | zero => exact Nat.le_refl 0
  | succ n ih => simp only [cnt]; split <;> omega
theorem cnt_t {p : Nat → Bool} {i : Nat} (h : p i = true) : cnt p (i + 1) = cnt p i + 1 := by simp [cnt, h]
theorem cnt_f {p : Nat → Bool} {i : Nat} (h : p i = false) : cnt p (i + 1) = cnt p i := by simp [cnt, h]
theorem cnt_congr {p q : Nat → Bool} {n : Nat} (h : ∀ i, i < n → p i = q i) : cnt p n = cnt q n := by
  induction n with
  | zero => rfl
  | succ n ih => simp only [cnt]; rw [ih (fun i hi => h i (by omega)), h n (by omega)]
/-- a state: the steps, the radius, the cut line, a bar, a cut's loss, what is missing -/
abbrev Stt : Type := Nat × Nat × Int32 × Nat × Nat × (Nat → Bool)
def sF (s : Stt) : Nat := s.1
def sR (s : Stt) : Nat := s.2.1
def sL (s : Stt) : Int32 := s.2.2.1
def sB (s : Stt) : Nat := s.2.2.2.1
def sW (s : Stt) : Nat := s.2.2.2.2.1
def sM (s : Stt) : Nat → Bool := s.2.2.2.2.2
def okS (s : Stt) : Prop := 1 ≤ sF s ∧ sF s ≤ 6 ∧ 10 ≤ sR s ∧ sR s ≤ 2000 ∧ 100 ≤ sB s ∧ sB s ≤ 20000 ∧ sW s ≤ 20 ∧ (∀ i, sM s i = true → i < ns (sF s)) ∧ cnt (sM s) 432 ≤ 40
-- what the document calls kept, missing, closed ..
def kh (s : Stt) (a : Nat) : Bool := decide (sL s ≤ hz (sF s) a)
def ks (s : Stt) (i : Nat) : Bool := kh s (lo (sF s) i) && kh s (hi (sF s) i)
def kf (s : Stt) (i : Nat) : Bool := kh s (co (sF s) (3 * i)) && (kh s (co (sF s) (3 * i + 1)) && kh s (co (sF s) (3 * i + 2)))
def cf (s : Stt) (i : Nat) : Bool := kf s i && (!sM s (sd (sF s) (3 * i)) && (!sM s (sd (sF s) (3 * i + 1)) && !sM s (sd (sF s) (3 * i + 2))))
-- the class's world: what follows from the steps alone
def BH (f : Nat) (A : Mem) : Prop := A 1 3 = nI f ∧ A 1 4 = nI (nh f) ∧ ∀ a, a < nh f → A 2 a = hx f a ∧ A 3 a = hy f a ∧ A 4 a = hz f a
def BS (f : Nat) (A : Mem) : Prop := A 5 5 = nI (ns f) ∧ (∀ i, i < ns f → A 6 i = nI (lo f i) ∧ A 7 i = nI (hi f i)) ∧ (∀ a, a < nh f → A 8 a = nI (dg f a)) ∧ ∀ a j, a < nh f → j < dg f a → A 9 (a * 6 + j) = nI (lh f (a * 6 + j)) ∧ A 10 (a * 6 + j) = nI (lk f (a * 6 + j))
def BK (f : Nat) (A : Mem) : Prop := A 11 6 = nI (ns f) ∧ A 11 7 = nI (nk f) ∧ (∀ i, i < ns f → A 12 i = nI (kn f i) ∧ A 13 i = nI (kd f i) ∧ A 14 i = nI (ko f i) ∧ A 15 i = nI (so f i)) ∧ ∀ k, k < nk f → A 16 k = nI (qn f k) ∧ A 17 k = nI (qd f k)
def BF (f : Nat) (A : Mem) : Prop := A 18 2 = nI (nf f) ∧ ∀ i, i < 3 * nf f → A 19 i = nI (co f i) ∧ A 20 i = nI (sd f i)
def Bt (f : Nat) (A : Mem) : Prop := BH f A ∧ BS f A ∧ BK f A ∧ BF f A
/-- the state that lies in the object b (its flags in b + 1) -/
def SA (b : Nat) (s : Stt) (A : Mem) : Prop := A b 0 = nI (sF s) ∧ A b 1 = nI (sR s) ∧ A b 2 = sL s ∧ A b 3 = nI (sB s) ∧ A b 4 = nI (sW s) ∧ A b 5 = nI (cnt (sM s) 432) ∧ ∀ i, i < 432 → A (b + 1) i = b2i (sM s i)
def CI (s : Stt) (A : Mem) : Prop := okS s ∧ Bt (sF s) A ∧ SA 21 s A
-- bounds
theorem bd_n {f : Nat} (h1 : 1 ≤ f) (h6 : f ≤ 6) : nh f ≤ 146 ∧ ns f ≤ 432 ∧ nf f ≤ 288 ∧ nk f ≤ 9 ∧ 6 ≤ nh f ∧ 12 ≤ ns f ∧ 8 ≤ nf f ∧ 1 ≤ nk f := by
  rcases (show f = 1 ∨ f = 2 ∨ f = 3 ∨ f = 4 ∨ f = 5 ∨ f = 6 by omega) with rfl | rfl | rfl | rfl | rfl | rfl <;> decide
theorem CI_bd {s : Stt} {A : Mem} (h : CI s A) : nh (sF s) ≤ 146 ∧ ns (sF s) ≤ 432 ∧ nf (sF s) ≤ 288 ∧ nk (sF s) ≤ 9 ∧ 6 ≤ nh (sF s) ∧ 12 ≤ ns (sF s) ∧ 8 ≤ nf (sF s) ∧ 1 ≤ nk (sF s) := bd_n h.1.1 h.1.2.1
theorem bd_s {f i : Nat} (h1 : 1 ≤ f) (h6 : f ≤ 6) (hi9 : i < ns f) : lo f i < hi f i ∧ hi f i < nh f ∧ ko f i < nk f ∧ so f i < ns f := by
  have h := allF_of tb_1 h1 h6
  simp only [Bool.and_eq_true] at h
  have h2 := allN_of h.2.2 hi9
  simp only [Bool.and_eq_true, Nat.blt_eq] at h2
  exact h2
theorem bd_a {f a : Nat} (h1 : 1 ≤ f) (h6 : f ≤ 6) (ha : a < nh f) : dg f a ≤ 6 ∧ ∀ j, j < dg f a → lh f (a * 6 + j) < nh f ∧ lk f (a * 6 + j) < ns f := by
  have h2 := allN_of (allF_of tb_2 h1 h6) ha
  simp only [Bool.and_eq_true, Nat.ble_eq] at h2
  refine ⟨h2.1, fun j hj => ?_⟩
  have h3 := allN_of h2.2 hj
  simp only [Bool.and_eq_true, Nat.blt_eq] at h3
  exact h3
theorem bd_f {f i : Nat} (h1 : 1 ≤ f) (h6 : f ≤ 6) (hi9 : i < 3 * nf f) : co f i < nh f ∧ sd f i < ns f := by
  have h3 := allN_of (allF_of tb_3 h1 h6) hi9
  simp only [Bool.and_eq_true, Nat.blt_eq] at h3
  exact h3
-- numbers of the caller's
def inN (v : Int32) (n : Nat) : Bool := decide (0 ≤ v) && decide (v ≤ nI n - 1)
theorem inN_of {v : Int32} {n : Nat} (h1 : 1 ≤ n) (hn : n < 2 ^ 31) (h : inN v n = true) : ∃ a, a < n ∧ v = nI a := by
  simp only [inN, Bool.and_eq_true, decide_eq_true_eq] at h
  obtain ⟨a, ha, rfl⟩ := nI_of (Int32.not_lt.mpr h.1)
  have e : nI n - 1 = nI (n - 1) := nI_sub (b := 1) h1
  rw [e, nI_le_iff ha (by omega)] at h
  exact ⟨a, by omega, rfl⟩
theorem inN_nI {a n : Nat} (ha : a < n) (hn : n < 2 ^ 31) : inN (nI a) n = true := by
  have e : nI n - 1 = nI (n - 1) := nI_sub (b := 1) (by omega)
  simp only [inN, Bool.and_eq_true, decide_eq_true_eq]
  rw [e, nI_le_iff (by omega) (by omega)]
  exact ⟨nI_pos' (by omega), by omega⟩
theorem sw_out {x : Int32} (n : Nat) {lo hi : Int} (h0 : lo = 0) (h1 : hi + 1 = (n : Int)) (h : ∀ j, j < n → ¬ x = nI j) : x.toInt < lo ∨ hi < x.toInt := by
  by_cases hx : x < 0
  · left
    rw [h0]
    have := Int32.lt_iff_toInt_lt.mp hx
    rwa [Int32.toInt_zero] at this
  · obtain ⟨a, ha, rfl⟩ := nI_of hx
    right
    rw [nI_toInt ha]
    by_cases hn : a < n
    · exact absurd rfl (h a hn)
    · omega
def anyN (p : Nat → Bool) : Nat → Bool
  | 0 => false
  | n + 1 => anyN p n || p n
theorem anyN_t {p : Nat → Bool} {n i : Nat} (hi : i < n) (h : p i = true) : anyN p n = true := by
  induction n with
  | zero => omega
  | succ n ih =>
    simp only [anyN, Bool.or_eq_true]
    by_cases e : i = n
    · right; rw [← e]; exact h
    · left; exact ih (by omega)
theorem anyN_f {p : Nat → Bool} {i : Nat} (h : anyN p i = false) (h2 : p i = false) : anyN p (i + 1) = false := by simp [anyN, h, h2]
theorem anyN_congr {p q : Nat → Bool} {n : Nat} (h : ∀ i, i < n → p i = q i) : anyN p n = anyN q n := by
  induction n with
  | zero => rfl
  | succ n ih => simp only [anyN]; rw [ih (fun i hi => h i (by omega)), h n (by omega)]
/-- on the border -/
def bh (s : Stt) (a : Nat) : Bool := kh s a && anyN (fun j => !kh s (lh (sF s) (a * 6 + j))) (dg (sF s) a)
/-- the degree of a hub -/
def dgr (s : Stt) (a : Nat) : Nat := cnt (fun j => ks s (lk (sF s) (a * 6 + j)) && !sM s (lk (sF s) (a * 6 + j))) (dg (sF s) a)
-- what CI says, place by place
theorem CI_nh {s : Stt} {A : Mem} (h : CI s A) : A 1 4 = nI (nh (sF s)) := h.2.1.1.2.1
theorem CI_ns {s : Stt} {A : Mem} (h : CI s A) : A 5 5 = nI (ns (sF s)) := h.2.1.2.1.1
theorem CI_nf {s : Stt} {A : Mem} (h : CI s A) : A 18 2 = nI (nf (sF s)) := h.2.1.2.2.2.1
theorem CI_nk {s : Stt} {A : Mem} (h : CI s A) : A 11 7 = nI (nk (sF s)) := h.2.1.2.2.1.2.1
theorem CI_lo {s : Stt} {A : Mem} (h : CI s A) {i : Nat} (hi9 : i < ns (sF s)) : A 6 i = nI (lo (sF s) i) := (h.2.1.2.1.2.1 i hi9).1
theorem CI_hi {s : Stt} {A : Mem} (h : CI s A) {i : Nat} (hi9 : i < ns (sF s)) : A 7 i = nI (hi (sF s) i) := (h.2.1.2.1.2.1 i hi9).2
theorem CI_dg {s : Stt} {A : Mem} (h : CI s A) {a : Nat} (ha : a < nh (sF s)) : A 8 a = nI (dg (sF s) a) := h.2.1.2.1.2.2.1 a ha
theorem CI_lh {s : Stt} {A : Mem} (h : CI s A) {a j : Nat} (ha : a < nh (sF s)) (hj : j < dg (sF s) a) : A 9 (a * 6 + j) = nI (lh (sF s) (a * 6 + j)) := (h.2.1.2.1.2.2.2 a j ha hj).1
theorem CI_lk {s : Stt} {A : Mem} (h : CI s A) {a j : Nat} (ha : a < nh (sF s)) (hj : j < dg (sF s) a) : A 10 (a * 6 + j) = nI (lk (sF s) (a * 6 + j)) := (h.2.1.2.1.2.2.2 a j ha hj).2
theorem CI_ko {s : Stt} {A : Mem} (h : CI s A) {i : Nat} (hi9 : i < ns (sF s)) : A 14 i = nI (ko (sF s) i) := (h.2.1.2.2.1.2.2.1 i hi9).2.2.1
theorem CI_co {s : Stt} {A : Mem} (h : CI s A) {i : Nat} (hi9 : i < 3 * nf (sF s)) : A 19 i = nI (co (sF s) i) := (h.2.1.2.2.2.2 i hi9).1
theorem CI_sd {s : Stt} {A : Mem} (h : CI s A) {i : Nat} (hi9 : i < 3 * nf (sF s)) : A 20 i = nI (sd (sF s) i) := (h.2.1.2.2.2.2 i hi9).2
theorem CI_ms {s : Stt} {A : Mem} (h : CI s A) {i : Nat} (hi9 : i < 432) : A 22 i = b2i (sM s i) := h.2.2.2.2.2.2.2.2 i hi9
theorem CI_keep {s : Stt} {A A2 : Mem} (h : CI s A) (hk : ∀ c, c ≤ 22 → A2 c = A c) : CI s A2 := by
  unfold CI Bt BH BS BK BF SA at *
  simp only [hk 1 (by omega), hk 2 (by omega), hk 3 (by omega), hk 4 (by omega), hk 5 (by omega), hk 6 (by omega), hk 7 (by omega), hk 8 (by omega), hk 9 (by omega), hk 10 (by omega), hk 11 (by omega), hk 12 (by omega), hk 13 (by omega), hk 14 (by omega), hk 15 (by omega), hk 16 (by omega), hk 17 (by omega), hk 18 (by omega), hk 19 (by omega), hk 20 (by omega), hk 21 (by omega), hk (21 + 1) (by omega)]
  exact h
