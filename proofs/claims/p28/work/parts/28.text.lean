/-! TEXTS: how they are read, and the class's reader -/
abbrev Txt : Type := Nat × (Nat → Nat)
def okT (x : Txt) : Prop := x.1 ≤ 80 ∧ ∀ i, i < x.1 → 32 ≤ x.2 i ∧ x.2 i ≤ 126
def isd (x : Txt) (p : Nat) : Bool := decide (p < x.1) && (decide (48 ≤ x.2 p) && decide (x.2 p ≤ 57))
/-- reads digits, k at most, from place p on: the place behind them, the number -/
def rdg (x : Txt) : Nat → Nat → Nat → Nat × Nat
  | 0, p, v => (p, v)
  | k + 1, p, v => if isd x p = true then rdg x k (p + 1) (10 * v + x.2 p - 48) else (p, v)
def sgn (x : Txt) (c p : Nat) : Bool := decide (p < x.1) && decide (x.2 p = c)
/-- a pair at place p: its numbers, the place behind it -/
def prs (x : Txt) (p : Nat) : Option (Nat × Nat × Nat) :=
  if (rdg x 3 p 0).1 = p then none
  else if sgn x 45 (rdg x 3 p 0).1 = true then
    (if (rdg x 3 ((rdg x 3 p 0).1 + 1) 0).1 = (rdg x 3 p 0).1 + 1 then none
     else if sgn x 59 (rdg x 3 ((rdg x 3 p 0).1 + 1) 0).1 = true then some ((rdg x 3 p 0).2, (rdg x 3 ((rdg x 3 p 0).1 + 1) 0).2, (rdg x 3 ((rdg x 3 p 0).1 + 1) 0).1 + 1) else none)
  else none
def btw (f a b : Nat) : Option Nat := (fst (fun j => decide (lh f (a * 6 + j) = b)) (dg f a)).map (fun j => lk f (a * 6 + j))
/-- what the text has at place p, c struts l being ahead of it: a reason, or 0, the strut and the place behind it -/
def rsn (s : Stt) (x : Txt) (p c : Nat) (l : Nat → Nat) : Nat × Nat × Nat :=
  match prs x p with
  | none => (1, 0, 0)
  | some (a, b, e) =>
    if nh (sF s) ≤ a ∨ nh (sF s) ≤ b then (2, 0, 0)
    else match btw (sF s) a b with
      | none => (3, 0, 0)
      | some k => if b < a then (3, 0, 0) else if sM s k = true then (4, 0, 0) else if anyN (fun i => decide (l i = k)) c = true then (5, 0, 0) else (0, k, e)
/-- the whole text: a reason or 0, its place, how many struts, which -/
def rdt (s : Stt) (x : Txt) : Nat → Nat → Nat → (Nat → Nat) → Nat × Nat × Nat × (Nat → Nat)
  | 0, p, c, l => (0, p, c, l)
  | k + 1, p, c, l => if p < x.1 then (if (rsn s x p c l).1 = 0 then rdt s x k (rsn s x p c l).2.2 (c + 1) (uN l c (rsn s x p c l).2.1) else ((rsn s x p c l).1, p, c, l)) else (0, p, c, l)
def rd0 (s : Stt) (x : Txt) : Nat × Nat × Nat × (Nat → Nat) := rdt s x 20 0 0 (fun _ => 0)
theorem rdg_bd (x : Txt) : ∀ k p v, p ≤ (rdg x k p v).1 ∧ (rdg x k p v).1 ≤ p + k ∧ (rdg x k p v).2 < 10 ^ k * (v + 1) ∧ (p ≤ x.1 → (rdg x k p v).1 ≤ x.1) := by
  intro k
  induction k with
  | zero => intro p v; exact ⟨Nat.le_refl _, Nat.le_refl _, by simp [rdg], fun h => h⟩
  | succ k ih =>
    intro p v
    simp only [rdg]
    by_cases h : isd x p = true
    · rw [if_pos h]
      obtain ⟨a1, a2, a3, a4⟩ := ih (p + 1) (10 * v + x.2 p - 48)
      simp only [isd, Bool.and_eq_true, decide_eq_true_eq] at h
      refine ⟨by omega, by omega, Nat.lt_of_lt_of_le a3 ?_, fun _ => a4 (by omega)⟩
      rw [Nat.pow_succ, Nat.mul_assoc]
      exact Nat.mul_le_mul_left _ (by omega)
    · rw [if_neg h]
      refine ⟨Nat.le_refl _, by omega, ?_, fun q => q⟩
      show v < 10 ^ (k + 1) * (v + 1)
      have : 1 ≤ 10 ^ (k + 1) := Nat.one_le_pow _ _ (by decide)
      have := Nat.mul_le_mul_right (v + 1) this
      omega
theorem rdg_3 (x : Txt) (p : Nat) : p ≤ (rdg x 3 p 0).1 ∧ (rdg x 3 p 0).1 ≤ p + 3 ∧ (rdg x 3 p 0).2 < 1000 ∧ (p ≤ x.1 → (rdg x 3 p 0).1 ≤ x.1) := by
  have := rdg_bd x 3 p 0
  exact ⟨this.1, this.2.1, this.2.2.1, this.2.2.2⟩
theorem prs_bd {x : Txt} {p a b e : Nat} (h : prs x p = some (a, b, e)) : a < 1000 ∧ b < 1000 ∧ p + 4 ≤ e ∧ e ≤ x.1 := by
  unfold prs at h
  by_cases h1 : (rdg x 3 p 0).1 = p
  · rw [if_pos h1] at h; cases h
  · rw [if_neg h1] at h
    by_cases h2 : sgn x 45 (rdg x 3 p 0).1 = true
    · rw [if_pos h2] at h
      by_cases h3 : (rdg x 3 ((rdg x 3 p 0).1 + 1) 0).1 = (rdg x 3 p 0).1 + 1
      · rw [if_pos h3] at h; cases h
      · rw [if_neg h3] at h
        by_cases h4 : sgn x 59 (rdg x 3 ((rdg x 3 p 0).1 + 1) 0).1 = true
        · rw [if_pos h4] at h
          have a1 := rdg_3 x p
          have a2 := rdg_3 x ((rdg x 3 p 0).1 + 1)
          simp only [sgn, Bool.and_eq_true, decide_eq_true_eq] at h2 h4
          cases h
          omega
        · rw [if_neg h4] at h; cases h
    · rw [if_neg h2] at h; cases h
theorem btw_lt {f a b k : Nat} (h1 : 1 ≤ f) (h6 : f ≤ 6) (ha : a < nh f) (h : btw f a b = some k) : k < ns f := by
  unfold btw at h
  cases e : fst (fun j => decide (lh f (a * 6 + j) = b)) (dg f a) with
  | none => rw [e] at h; cases h
  | some j =>
    rw [e] at h
    cases h
    exact ((bd_a h1 h6 ha).2 j (fst_lt e).1).2
theorem rsn_ex {s : Stt} {x : Txt} {p c : Nat} {l : Nat → Nat} (h1 : 1 ≤ sF s) (h6 : sF s ≤ 6) (h : (rsn s x p c l).1 = 0) : ∃ k e, rsn s x p c l = (0, k, e) ∧ k < ns (sF s) ∧ sM s k = false ∧ anyN (fun i => decide (l i = k)) c = false ∧ p + 4 ≤ e ∧ e ≤ x.1 := by
  unfold rsn at h ⊢
  cases e : prs x p with
  | none => rw [e] at h; cases h
  | some q =>
    obtain ⟨a, b, e9⟩ := q
    rw [e] at h
    dsimp only at h ⊢
    by_cases q1 : nh (sF s) ≤ a ∨ nh (sF s) ≤ b
    · rw [if_pos q1] at h; cases h
    · rw [if_neg q1] at h ⊢
      cases e2 : btw (sF s) a b with
      | none => rw [e2] at h; cases h
      | some k =>
        rw [e2] at h
        dsimp only at h ⊢
        by_cases q2 : b < a
        · rw [if_pos q2] at h; cases h
        · rw [if_neg q2] at h ⊢
          by_cases q3 : sM s k = true
          · rw [if_pos q3] at h; cases h
          · rw [if_neg q3] at h ⊢
            by_cases q4 : anyN (fun i => decide (l i = k)) c = true
            · rw [if_pos q4] at h; cases h
            · rw [if_neg q4]
              have := prs_bd e
              exact ⟨k, e9, rfl, btw_lt h1 h6 (by omega) e2, by simpa using q3, by simpa using q4, this.2.2.1, this.2.2.2⟩
theorem rsn_ok {s : Stt} {x : Txt} {p c : Nat} {l : Nat → Nat} (h1 : 1 ≤ sF s) (h6 : sF s ≤ 6) (h : (rsn s x p c l).1 = 0) : (rsn s x p c l).2.1 < ns (sF s) ∧ sM s (rsn s x p c l).2.1 = false ∧ anyN (fun i => decide (l i = (rsn s x p c l).2.1)) c = false ∧ p + 4 ≤ (rsn s x p c l).2.2 ∧ (rsn s x p c l).2.2 ≤ x.1 := by
  obtain ⟨k, e, he, a1, a2, a3, a4, a5⟩ := rsn_ex h1 h6 h
  rw [he]
  exact ⟨a1, a2, a3, a4, a5⟩
/-- the struts of a list: none missing, no two alike -/
def LOK (s : Stt) (c : Nat) (l : Nat → Nat) : Prop := ∀ i, i < c → l i < ns (sF s) ∧ sM s (l i) = false ∧ ∀ j, j < i → ¬ l j = l i
theorem anyN_no {p : Nat → Bool} {n : Nat} (h : anyN p n = false) : ∀ i, i < n → p i = false := by
  intro i hi9
  cases e : p i with
  | false => rfl
  | true => rw [anyN_t hi9 e] at h; cases h
theorem LOK_add {s : Stt} {x : Txt} {p c : Nat} {l : Nat → Nat} (h1 : 1 ≤ sF s) (h6 : sF s ≤ 6) (hL : LOK s c l) (h : (rsn s x p c l).1 = 0) : LOK s (c + 1) (uN l c (rsn s x p c l).2.1) := by
  obtain ⟨a1, a2, a3, -⟩ := rsn_ok h1 h6 h
  intro i hi9
  by_cases e : i = c
  · subst e
    rw [uN_at]
    refine ⟨a1, a2, fun j hj => ?_⟩
    rw [uN_ne (by omega)]
    have := anyN_no a3 j hj
    simpa using this
  · rw [uN_ne e]
    obtain ⟨b1, b2, b3⟩ := hL i (by omega)
    exact ⟨b1, b2, fun j hj => by rw [uN_ne (by omega)]; exact b3 j hj⟩
theorem rdt_ok {s : Stt} {x : Txt} (h1 : 1 ≤ sF s) (h6 : sF s ≤ 6) : ∀ k p c l, LOK s c l → LOK s (rdt s x k p c l).2.2.1 (rdt s x k p c l).2.2.2 ∧ (rdt s x k p c l).2.2.1 ≤ c + k ∧ (rdt s x k p c l).1 ≤ 5 ∧ (p ≤ x.1 → (rdt s x k p c l).2.1 ≤ x.1) := by
  intro k
  induction k with
  | zero => intro p c l h; exact ⟨h, Nat.le_refl _, Nat.zero_le _, fun q => q⟩
  | succ k ih =>
    intro p c l h
    simp only [rdt]
    by_cases q1 : p < x.1
    · rw [if_pos q1]
      by_cases q2 : (rsn s x p c l).1 = 0
      · rw [if_pos q2]
        have := ih (rsn s x p c l).2.2 (c + 1) _ (LOK_add h1 h6 h q2)
        have r := rsn_ok h1 h6 q2
        exact ⟨this.1, by omega, this.2.2.1, fun _ => this.2.2.2 r.2.2.2.2⟩
      · rw [if_neg q2]
        refine ⟨h, by dsimp only; omega, ?_, fun q => q⟩
        dsimp only
        unfold rsn
        cases prs x p with
        | none => show (1 : Nat) ≤ 5; decide
        | some q =>
          obtain ⟨a, b, e9⟩ := q
          dsimp only
          split
          · decide
          · cases btw (sF s) a b with
            | none => show (3 : Nat) ≤ 5; decide
            | some k => dsimp only; split; decide; split; decide; split; decide; exact Nat.zero_le _
    · rw [if_neg q1]
      exact ⟨h, by dsimp only; omega, Nat.zero_le _, fun q => q⟩
theorem LOK_0 (s : Stt) (l : Nat → Nat) : LOK s 0 l := fun i h => absurd h (Nat.not_lt_zero i)
-- the class
def TXA (x : Txt) (A : Mem) : Prop := A 47 1 = nI x.1 ∧ ∀ i, i < x.1 → A 48 i = nI (x.2 i)
theorem TXA_put {x : Txt} {A : Mem} {j : Nat} {v : Int32} (h : TXA x A) (hj : ¬ 1 = j) : TXA x (mset A 47 j v) := ⟨by rw [mset_ne hj]; exact h.1, fun i hi9 => by rw [mset_other (by decide)]; exact h.2 i hi9⟩
theorem TXA_keep {x : Txt} {A A2 : Mem} (h : TXA x A) (h1 : A2 47 1 = A 47 1) (h2 : A2 48 = A 48) : TXA x A2 := by
  unfold TXA at *
  rw [h1, h2]
  exact h
def LI (c : Nat) (l : Nat → Nat) (A : Mem) : Prop := A 49 1 = nI c ∧ ∀ i, i < c → A 50 i = nI (l i)
theorem btw_opI {f a b : Nat} : opI (-1) ((fst (fun j => decide (lh f (a * 6 + j) = b)) (dg f a)).map (fun j => lk f (a * 6 + j))) = opI (-1) (btw f a b) := rfl