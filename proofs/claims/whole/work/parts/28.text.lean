/-! TEXTS: how they are read, and the class's reader -/
abbrev Txt : Type := Nat × (Nat → Nat)
def okT (x : Txt) : Prop := x.1 ≤ 80 ∧ ∀ i, i < x.1 → 32 ≤ x.2 i ∧ x.2 i ≤ 126
def isd (x : Txt) (p : Nat) : Bool := decide (p < x.1) && (decide (48 ≤ x.2 p) && decide (x.2 p ≤ 57))
/-- reads digits, k at most, from place p on: the place behind them, the number -/
def rdg (x : Txt) : Nat → Nat → Nat → Nat × Nat
  | 0, p, v => (p, v)
  | k + 1, p, v => if isd x p = true then rdg x k (p + 1) (10 * v + x.2 p - 48) else (p, v)
def sgn (x : Txt) (c p : Nat) : Bool := decide (p < x.1) && decide (x.2 p = c)
/-- a pair at place p: its numbers, the place behind it -/
def prs (x : Txt) (p : Nat) : Option (Nat × Nat × Nat) :=
  if (rdg x 3 p 0).1 = p then none
  else if sgn x 45 (rdg x 3 p 0).1 = true then
    (if (rdg x 3 ((rdg x 3 p 0).1 + 1) 0).1 = (rdg x 3 p 0).1 + 1 then none
     else if sgn x 59 (rdg x 3 ((rdg x 3 p 0).1 + 1) 0).1 = true then some ((rdg x 3 p 0).2, (rdg x 3 ((rdg x 3 p 0).1 + 1) 0).2, (rdg x 3 ((rdg x 3 p 0).1 + 1) 0).1 + 1) else none)
  else none
def btw (f a b : Nat) : Option Nat := (fst (fun j => decide (lh f (a * 6 + j) = b)) (dg f a)).map (fun j => lk f (a * 6 + j))
/-- what the text has at place p, c struts l being ahead of it: a reason, or 0, the strut and the place behind it -/
def rsn (s : Stt) (x : Txt) (p c : Nat) (l : Nat → Nat) : Nat × Nat × Nat :=
  match prs x p with
  | none => (1, 0, 0)
  | some (a, b, e) =>
    if nh (sF s) ≤ a ∨ nh (sF s) ≤ b then (2, 0, 0)
    else match btw (sF s) a b with
      | none => (3, 0, 0)
      | some k => if b < a then (3, 0, 0) else if sM s k = true then (4, 0, 0) else if anyN (fun i => decide (l i = k)) c = true then (5, 0, 0) else (0, k, e)
/-- the whole text: a reason or 0, its place, how many struts, which -/
def rdt (s : Stt) (x : Txt) : Nat → Nat → Nat → (Nat → Nat) → Nat × Nat × Nat × (Nat → Nat)
  | 0, p, c, l => (0, p, c, l)
  | k + 1, p, c, l => if p < x.1 then (if (rsn s x p c l).1 = 0 then rdt s x k (rsn s x p c l).2.2 (c + 1) (uN l c (rsn s x p c l).2.1) else ((rsn s x p c l).1, p, c, l)) else (0, p, c, l)
def rd0 (s : Stt) (x : Txt) : Nat × Nat × Nat × (Nat → Nat) := rdt s x 20 0 0 (fun _ => 0)
theorem rdg_bd (x : Txt) : ∀ k p v, p ≤ (rdg x k p v).1 ∧ (rdg x k p v).1 ≤ p + k ∧ (rdg x k p v).2 < 10 ^ k * (v + 1) ∧ (p ≤ x.1 → (rdg x k p v).1 ≤ x.1) := by
  intro k
  induction k with
  | zero => intro p v; exact ⟨Nat.le_refl _, Nat.le_refl _, by simp [rdg], fun h => h⟩
  | succ k ih =>
    intro p v
    simp only [rdg]
    by_cases h : isd x p = true
    · rw [if_pos h]
      obtain ⟨a1, a2, a3, a4⟩ := ih (p + 1) (10 * v + x.2 p - 48)
      simp only [isd, Bool.and_eq_true, decide_eq_true_eq] at h
      refine ⟨by omega, by omega, Nat.lt_of_lt_of_le a3 ?_, fun _ => a4 (by omega)⟩
      rw [Nat.pow_succ, Nat.mul_assoc]
      exact Nat.mul_le_mul_left _ (by omega)
    · rw [if_neg h]
      refine ⟨Nat.le_refl _, by omega, ?_, fun q => q⟩
      show v < 10 ^ (k + 1) * (v + 1)
      have : 1 ≤ 10 ^ (k + 1) := Nat.one_le_pow _ _ (by decide)
      have := Nat.mul_le_mul_right (v + 1) this
      omega
theorem rdg_3 (x : Txt) (p : Nat) : p ≤ (rdg x 3 p 0).1 ∧ (rdg x 3 p 0).1 ≤ p + 3 ∧ (rdg x 3 p 0).2 < 1000 ∧ (p ≤ x.1 → (rdg x 3 p 0).1 ≤ x.1) := by
  have := rdg_bd x 3 p 0
  exact ⟨this.1, this.2.1, this.2.2.1, this.2.2.2⟩
theorem prs_bd {x : Txt} {p a b e : Nat} (h : prs x p = some (a, b, e)) : a < 1000 ∧ b < 1000 ∧ p + 4 ≤ e ∧ e ≤ x.1 := by
  unfold prs at h
  by_cases h1 : (rdg x 3 p 0).1 = p
  · rw [if_pos h1] at h; cases h
  · rw [if_neg h1] at h
    by_cases h2 : sgn x 45 (rdg x 3 p 0).1 = true
    · rw [if_pos h2] at h
      by_cases h3 : (rdg x 3 ((rdg x 3 p 0).1 + 1) 0).1 = (rdg x 3 p 0).1 + 1
      · rw [if_pos h3] at h; cases h
      · rw [if_neg h3] at h
        by_cases h4 : sgn x 59 (rdg x 3 ((rdg x 3 p 0).1 + 1) 0).1 = true
        · rw [if_pos h4] at h
          have a1 := rdg_3 x p
          have a2 := rdg_3 x ((rdg x 3 p 0).1 + 1)
          simp only [sgn, Bool.and_eq_true, decide_eq_true_eq] at h2 h4
          cases h
          omega
        · rw [if_neg h4] at h; cases h
    · rw [if_neg h2] at h; cases h
theorem btw_lt {f a b k : Nat} (h1 : 1 ≤ f) (h6 : f ≤ 6) (ha : a < nh f) (h : btw f a b = some k) : k < ns f := by
  unfold btw at h
  cases e : fst (fun j => decide (lh f (a * 6 + j) = b)) (dg f a) with
  | none => rw [e] at h; cases h
  | some j =>
    rw [e] at h
    cases h
    exact ((bd_a h1 h6 ha).2 j (fst_lt e).1).2
theorem rsn_ex {s : Stt} {x : Txt} {p c : Nat} {l : Nat → Nat} (h1 : 1 ≤ sF s) (h6 : sF s ≤ 6) (h : (rsn s x p c l).1 = 0) : ∃ k e, rsn s x p c l = (0, k, e) ∧ k < ns (sF s) ∧ sM s k = false ∧ anyN (fun i => decide (l i = k)) c = false ∧ p + 4 ≤ e ∧ e ≤ x.1 := by
  unfold rsn at h ⊢
  cases e : prs x p with
  | none => rw [e] at h; cases h
  | some q =>
    obtain ⟨a, b, e9⟩ := q
    rw [e] at h
    dsimp only at h ⊢
    by_cases q1 : nh (sF s) ≤ a ∨ nh (sF s) ≤ b
    · rw [if_pos q1] at h; cases h
    · rw [if_neg q1] at h ⊢
      cases e2 : btw (sF s) a b with
      | none => rw [e2] at h; cases h
      | some k =>
        rw [e2] at h
        dsimp only at h ⊢
        by_cases q2 : b < a
        · rw [if_pos q2] at h; cases h
        · rw [if_neg q2] at h ⊢
          by_cases q3 : sM s k = true
          · rw [if_pos q3] at h; cases h
          · rw [if_neg q3] at h ⊢
            by_cases q4 : anyN (fun i => decide (l i = k)) c = true
            · rw [if_pos q4] at h; cases h
            · rw [if_neg q4]
              have := prs_bd e
              exact ⟨k, e9, rfl, btw_lt h1 h6 (by omega) e2, by simpa using q3, by simpa using q4, this.2.2.1, this.2.2.2⟩
theorem rsn_ok {s : Stt} {x : Txt} {p c : Nat} {l : Nat → Nat} (h1 : 1 ≤ sF s) (h6 : sF s ≤ 6) (h : (rsn s x p c l).1 = 0) : (rsn s x p c l).2.1 < ns (sF s) ∧ sM s (rsn s x p c l).2.1 = false ∧ anyN (fun i => decide (l i = (rsn s x p c l).2.1)) c = false ∧ p + 4 ≤ (rsn s x p c l).2.2 ∧ (rsn s x p c l).2.2 ≤ x.1 := by
  obtain ⟨k, e, he, a1, a2, a3, a4, a5⟩ := rsn_ex h1 h6 h
  rw [he]
  exact ⟨a1, a2, a3, a4, a5⟩
/-- the struts of a list: none missing, no two alike -/
def LOK (s : Stt) (c : Nat) (l : Nat → Nat) : Prop := ∀ i, i < c → l i < ns (sF s) ∧ sM s (l i) = false ∧ ∀ j, j < i → ¬ l j = l i
theorem anyN_no {p : Nat → Bool} {n : Nat} (h : anyN p n = false) : ∀ i, i < n → p i = false := by
  intro i hi9
  cases e : p i with
  | false => rfl
  | true => rw [anyN_t hi9 e] at h; cases h
theorem LOK_add {s : Stt} {x : Txt} {p c : Nat} {l : Nat → Nat} (h1 : 1 ≤ sF s) (h6 : sF s ≤ 6) (hL : LOK s c l) (h : (rsn s x p c l).1 = 0) : LOK s (c + 1) (uN l c (rsn s x p c l).2.1) := by
  obtain ⟨a1, a2, a3, -⟩ := rsn_ok h1 h6 h
  intro i hi9
  by_cases e : i = c
  · subst e
    rw [uN_at]
    refine ⟨a1, a2, fun j hj => ?_⟩
    rw [uN_ne (by omega)]
    have := anyN_no a3 j hj
    simpa using this
  · rw [uN_ne e]
    obtain ⟨b1, b2, b3⟩ := hL i (by omega)
    exact ⟨b1, b2, fun j hj => by rw [uN_ne (by omega)]; exact b3 j hj⟩
theorem rdt_ok {s : Stt} {x : Txt} (h1 : 1 ≤ sF s) (h6 : sF s ≤ 6) : ∀ k p c l, LOK s c l → LOK s (rdt s x k p c l).2.2.1 (rdt s x k p c l).2.2.2 ∧ (rdt s x k p c l).2.2.1 ≤ c + k ∧ (rdt s x k p c l).1 ≤ 5 ∧ (p ≤ x.1 → (rdt s x k p c l).2.1 ≤ x.1) := by
  intro k
  induction k with
  | zero => intro p c l h; exact ⟨h, Nat.le_refl _, Nat.zero_le _, fun q => q⟩
  | succ k ih =>
    intro p c l h
    simp only [rdt]
    by_cases q1 : p < x.1
    · rw [if_pos q1]
      by_cases q2 : (rsn s x p c l).1 = 0
      · rw [if_pos q2]
        have := ih (rsn s x p c l).2.2 (c + 1) _ (LOK_add h1 h6 h q2)
        have r := rsn_ok h1 h6 q2
        exact ⟨this.1, by omega, this.2.2.1, fun _ => this.2.2.2 r.2.2.2.2⟩
      · rw [if_neg q2]
        refine ⟨h, by dsimp only; omega, ?_, fun q => q⟩
        dsimp only
        unfold rsn
        cases prs x p with
        | none => show (1 : Nat) ≤ 5; decide
        | some q =>
          obtain ⟨a, b, e9⟩ := q
          dsimp only
          split
          · decide
          · cases btw (sF s) a b with
            | none => show (3 : Nat) ≤ 5; decide
            | some k => dsimp only; split; decide; split; decide; split; decide; exact Nat.zero_le _
    · rw [if_neg q1]
      exact ⟨h, by dsimp only; omega, Nat.zero_le _, fun q => q⟩
theorem LOK_0 (s : Stt) (l : Nat → Nat) : LOK s 0 l := fun i h => absurd h (Nat.not_lt_zero i)
-- the class
def TXA (x : Txt) (A : Mem) : Prop := A 47 1 = nI x.1 ∧ ∀ i, i < x.1 → A 48 i = nI (x.2 i)
theorem TXA_put {x : Txt} {A : Mem} {j : Nat} {v : Int32} (h : TXA x A) (hj : ¬ 1 = j) : TXA x (mset A 47 j v) := ⟨by rw [mset_ne hj]; exact h.1, fun i hi9 => by rw [mset_other (by decide)]; exact h.2 i hi9⟩
theorem TXA_keep {x : Txt} {A A2 : Mem} (h : TXA x A) (h1 : A2 47 1 = A 47 1) (h2 : A2 48 = A 48) : TXA x A2 := by
  unfold TXA at *
  rw [h1, h2]
  exact h
def LI (c : Nat) (l : Nat → Nat) (A : Mem) : Prop := A 49 1 = nI c ∧ ∀ i, i < c → A 50 i = nI (l i)
theorem sp_53 {x : Txt} {p : Nat} {A : Mem} {Q : Int32 → Mem → Prop} (hx9 : okT x) (hT : TXA x A) (hp : A 47 2 = nI p) (hp2 : p < 1000) (h : Q (b2i (isd x p)) A) : pm_P 53 0 [(0, .ref 47)] [] A Q := by
  obtain ⟨x1, x2⟩ := hx9
  refine pm_aload_n (i := 0) d53_0 rfl rfl ?_
  refine pm_getE d53_1 lf_8_37 rfl rfl (hp) ?_
  refine pm_aload_n (i := 0) d53_4 rfl rfl ?_
  refine pm_getE d53_5 lf_8_15 rfl rfl (hT.1) ?_
  first | refine pm_icmp_geN (tgt := 43) d53_8 rfl (by omega) (by omega) (fun c_8 => ?_) (fun c_8 => ?_) | refine pm_icmp_ge (tgt := 43) d53_8 rfl (fun c_8 => ?_) (fun c_8 => ?_)
  · refine pm_iconst (v := nI 0) d53_43 (by decide) ?_
    refine pm_iret d53_44 rfl (by first | rfl | exact nar_b _) ?_
    rw [show isd x p = false by unfold isd; rw [decide_eq_false (by omega), Bool.false_and]] at h
    exact h
  · have x3 := x2 p c_8 
    refine pm_aload_n (i := 0) d53_11 rfl rfl ?_
    refine pm_getR d53_12 lf_8_9 rfl rfl ?_
    refine pm_aload_n (i := 0) d53_15 rfl rfl ?_
    refine pm_getE d53_16 lf_8_37 rfl rfl (hp) ?_
    refine pm_caldN d53_19 rfl (by decide) (by omega) ?_
    rw [hT.2 p c_8]
    refine pm_bipush (v := nI 48) d53_20 (by decide) ?_
    first | refine pm_icmp_ltN (tgt := 43) d53_22 rfl (by omega) (by omega) (fun c_22 => ?_) (fun c_22 => ?_) | refine pm_icmp_lt (tgt := 43) d53_22 rfl (fun c_22 => ?_) (fun c_22 => ?_)
    · refine pm_iconst (v := nI 0) d53_43 (by decide) ?_
      refine pm_iret d53_44 rfl (by first | rfl | exact nar_b _) ?_
      rw [show isd x p = false by unfold isd; rw [decide_eq_false (show ¬ 48 ≤ x.2 p by omega), Bool.false_and, Bool.and_false]] at h
      exact h
    · refine pm_aload_n (i := 0) d53_25 rfl rfl ?_
      refine pm_getR d53_26 lf_8_9 rfl rfl ?_
      refine pm_aload_n (i := 0) d53_29 rfl rfl ?_
      refine pm_getE d53_30 lf_8_37 rfl rfl (hp) ?_
      refine pm_caldN d53_33 rfl (by decide) (by omega) ?_
      rw [hT.2 p c_8]
      refine pm_bipush (v := nI 57) d53_34 (by decide) ?_
      first | refine pm_icmp_gtN (tgt := 43) d53_36 rfl (by omega) (by omega) (fun c_36 => ?_) (fun c_36 => ?_) | refine pm_icmp_gt (tgt := 43) d53_36 rfl (fun c_36 => ?_) (fun c_36 => ?_)
      · refine pm_iconst (v := nI 0) d53_43 (by decide) ?_
        refine pm_iret d53_44 rfl (by first | rfl | exact nar_b _) ?_
        rw [show isd x p = false by unfold isd; rw [decide_eq_false (show ¬ x.2 p ≤ 57 by omega), Bool.and_false, Bool.and_false]] at h
        exact h
      · refine pm_iconst (v := nI 1) d53_39 (by decide) ?_
        refine pm_goto (tgt := 44) d53_40 rfl ?_
        refine pm_iret d53_44 rfl (by first | rfl | exact nar_b _) ?_
        rw [show isd x p = true by unfold isd; rw [decide_eq_true c_8, decide_eq_true (show 48 ≤ x.2 p by omega), decide_eq_true (show x.2 p ≤ 57 by omega)]; rfl] at h
        exact h
theorem sp_54 {x : Txt} {p c : Nat} {A : Mem} {Q : Int32 → Mem → Prop} (hx9 : okT x) (hT : TXA x A) (hp : A 47 2 = nI p) (hp2 : p < 1000) (hc : c < 1000) (h0 : sgn x c p = false → Q (b2i false) A) (h1 : sgn x c p = true → Q (b2i true) (mset A 47 2 (nI (p + 1)))) : pm_P 54 0 [(0, .ref 47), (1, .int (nI c))] [] A Q := by
  obtain ⟨x1, x2⟩ := hx9
  refine pm_aload_n (i := 0) d54_0 rfl rfl ?_
  refine pm_getE d54_1 lf_8_37 rfl rfl (hp) ?_
  refine pm_aload_n (i := 0) d54_4 rfl rfl ?_
  refine pm_getE d54_5 lf_8_15 rfl rfl (hT.1) ?_
  first | refine pm_icmp_geN (tgt := 24) d54_8 rfl (by omega) (by omega) (fun c_8 => ?_) (fun c_8 => ?_) | refine pm_icmp_ge (tgt := 24) d54_8 rfl (fun c_8 => ?_) (fun c_8 => ?_)
  · refine pm_iconst (v := nI 0) d54_24 (by decide) ?_
    refine pm_iret d54_25 rfl (by first | rfl | exact nar_b _) ?_
    exact h0 (by unfold sgn; rw [decide_eq_false (by omega), Bool.false_and])
  · have x3 := x2 p c_8 
    refine pm_aload_n (i := 0) d54_11 rfl rfl ?_
    refine pm_getR d54_12 lf_8_9 rfl rfl ?_
    refine pm_aload_n (i := 0) d54_15 rfl rfl ?_
    refine pm_getE d54_16 lf_8_37 rfl rfl (hp) ?_
    refine pm_caldN d54_19 rfl (by decide) (by omega) ?_
    rw [hT.2 p c_8]
    refine pm_iload_n (i := 1) d54_20 rfl rfl ?_
    first | refine pm_icmp_eqN (tgt := 26) d54_21 rfl (by omega) (by omega) (fun c_21 => ?_) (fun c_21 => ?_) | refine pm_icmp_eq (tgt := 26) d54_21 rfl (fun c_21 => ?_) (fun c_21 => ?_)
    · refine pm_aload_n (i := 0) d54_26 rfl rfl ?_
      refine pm_dup d54_27 rfl ?_
      refine pm_getE d54_28 lf_8_37 rfl rfl (hp) ?_
      refine pm_iconst (v := nI 1) d54_31 (by decide) ?_
      first | refine pm_iaddN d54_32 ?_ | refine pm_iadd d54_32 ?_
      refine pm_putI d54_33 lp_8_37 rfl rfl ?_
      refine pm_iconst (v := nI 1) d54_36 (by decide) ?_
      refine pm_iret d54_37 rfl (by first | rfl | exact nar_b _) ?_
      exact h1 (by unfold sgn; rw [decide_eq_true c_8, decide_eq_true c_21]; rfl)
    · refine pm_iconst (v := nI 0) d54_24 (by decide) ?_
      refine pm_iret d54_25 rfl (by first | rfl | exact nar_b _) ?_
      exact h0 (by unfold sgn; rw [decide_eq_false c_21, Bool.and_false])
theorem sp_52 {x : Txt} {p : Nat} {A : Mem} {Q : Int32 → Mem → Prop} (hx9 : okT x) (hT : TXA x A) (hp : A 47 2 = nI p) (hp2 : p < 900)
    (h : ∀ A2 : Mem, (∀ c, c ≠ 47 → A2 c = A c) → (∀ j, j ≠ 2 → A2 47 j = A 47 j) → A2 47 2 = nI (rdg x 3 p 0).1 → Q (if (rdg x 3 p 0).1 = p then -1 else nI (rdg x 3 p 0).2) A2) : pm_P 52 0 [(0, .ref 47)] [] A Q := by
  have k50 : ∀ (v d : Nat) (A1 : Mem), d ≤ 3 → v < 100000 → (∀ c, c ≠ 47 → A1 c = A c) → (∀ j, j ≠ 2 → A1 47 j = A 47 j) → A1 47 2 = nI (p + d) → rdg x 3 p 0 = (p + d, v) → pm_P 52 50 [(0, .ref 47), (1, .int (nI v)), (2, .int (nI d))] [] A1 Q := by
    intro v d A1 hd hv g1 g2 g3 g4
    have hh := h A1 g1 g2 (by rw [g4]; exact g3)
    rw [g4] at hh
    dsimp only at hh
    refine pm_iload_n (i := 2) d52_50 rfl rfl ?_
    first | refine pm_if_neB (tgt := 58) d52_51 rfl (fun c_51 => ?_) (fun c_51 => ?_) | refine pm_if_neN (tgt := 58) d52_51 rfl (by omega) (fun c_51 => ?_) (fun c_51 => ?_) | refine pm_if_ne (tgt := 58) d52_51 rfl (fun c_51 => ?_) (fun c_51 => ?_)
    · refine pm_iload_n (i := 1) d52_58 rfl rfl ?_
      refine pm_iret d52_59 rfl (by first | rfl | exact nar_b _) ?_
      rw [if_neg (by omega)] at hh
      exact hh
    · refine pm_iconst (v := -1) d52_54 (by decide) ?_
      refine pm_goto (tgt := 59) d52_55 rfl ?_
      refine pm_iret d52_59 rfl (by first | rfl | exact nar_b _) ?_
      rw [if_pos (by omega)] at hh
      exact hh
  have lp : ∀ k d v (A1 : Mem), k + d = 3 → v < 10 ^ d → (∀ c, c ≠ 47 → A1 c = A c) → (∀ j, j ≠ 2 → A1 47 j = A 47 j) → A1 47 2 = nI (p + d) → rdg x 3 p 0 = rdg x k (p + d) v → pm_P 52 4 [(0, .ref 47), (1, .int (nI v)), (2, .int (nI d))] [] A1 Q := by
    intro k
    induction k with
    | zero =>
      intro d v A1 hkd hv g1 g2 g3 g4
      rw [show d = 3 by omega] at *
      refine pm_iload_n (i := 2) d52_4 rfl rfl ?_
      refine pm_iconst (v := nI 3) d52_5 (by decide) ?_
      first | refine pm_icmp_geN (tgt := 50) d52_6 rfl (by omega) (by omega) (fun c_6 => ?_) (fun c_6 => ?_) | refine pm_icmp_ge (tgt := 50) d52_6 rfl (fun c_6 => ?_) (fun c_6 => ?_)
      · exact k50 v 3 A1 (by omega) (Nat.lt_trans hv (by decide)) g1 g2 g3 g4
      · omega
    | succ k ih =>
      intro d v A1 hkd hv g1 g2 g3 g4
      have hv3 : v < 1000 := Nat.lt_of_lt_of_le hv (Nat.pow_le_pow_right (by decide) (show d ≤ 3 by omega))
      have hT1 : TXA x A1 := by
        unfold TXA at *
        rw [g2 1 (by decide), g1 48 (by decide)]
        exact hT
      refine pm_iload_n (i := 2) d52_4 rfl rfl ?_
      refine pm_iconst (v := nI 3) d52_5 (by decide) ?_
      first | refine pm_icmp_geN (tgt := 50) d52_6 rfl (by omega) (by omega) (fun c_6 => ?_) (fun c_6 => ?_) | refine pm_icmp_ge (tgt := 50) d52_6 rfl (fun c_6 => ?_) (fun c_6 => ?_)
      · omega
      · refine pm_aload_n (i := 0) d52_9 rfl rfl ?_
        refine pm_callV (k2 := 53) (As := []) d52_10 lk_8_33 ok_53 rfl rfl rfl (Nat.le_of_ble_eq_true rfl) rfl rfl rfl rfl rfl ⟨Nat.le_of_ble_eq_true rfl, Nat.le_of_ble_eq_true rfl⟩ (Nat.le_of_ble_eq_true rfl) ?_
        refine sp_53 hx9 hT1 g3 (by omega) ?_
        first | refine pm_if_eqB (tgt := 50) d52_13 rfl (fun c_13 => ?_) (fun c_13 => ?_) | refine pm_if_eqN (tgt := 50) d52_13 rfl (by omega) (fun c_13 => ?_) (fun c_13 => ?_) | refine pm_if_eq (tgt := 50) d52_13 rfl (fun c_13 => ?_) (fun c_13 => ?_)
        · refine k50 v d A1 (by omega) (by omega) g1 g2 g3 ?_
          rw [g4]
          simp only [rdg, c_13]
          rfl
        · have c13 := c_13
          simp only [isd, Bool.and_eq_true, decide_eq_true_eq] at c13
          have x1 := hx9.1 
          refine pm_bipush (v := nI 10) d52_16 (by decide) ?_
          refine pm_iload_n (i := 1) d52_18 rfl rfl ?_
          first | refine pm_imulN d52_19 ?_ | refine pm_imul d52_19 ?_
          refine pm_aload_n (i := 0) d52_20 rfl rfl ?_
          refine pm_getR d52_21 lf_8_9 rfl rfl ?_
          refine pm_aload_n (i := 0) d52_24 rfl rfl ?_
          refine pm_getE (v := nI (p + d)) d52_25 lf_8_37 rfl rfl (by simp [mset_get, g3]) ?_
          refine pm_caldN d52_28 rfl (by decide) (by omega) ?_
          rw [hT1.2 _ c13.1]
          first | refine pm_iaddN d52_29 ?_ | refine pm_iadd d52_29 ?_
          refine pm_bipush (v := nI 48) d52_30 (by decide) ?_
          first | refine pm_isubN d52_32 (by omega) ?_ | refine pm_isub d52_32 ?_
          refine pm_istore_n (i := 1) (L2 := [(0, _), (1, _), (2, _)]) d52_33 rfl (by decide) rfl ?_
          refine pm_aload_n (i := 0) d52_34 rfl rfl ?_
          refine pm_dup d52_35 rfl ?_
          refine pm_getE (v := nI (p + d)) d52_36 lf_8_37 rfl rfl (by simp [mset_get, g3]) ?_
          refine pm_iconst (v := nI 1) d52_39 (by decide) ?_
          first | refine pm_iaddN d52_40 ?_ | refine pm_iadd d52_40 ?_
          refine pm_putI d52_41 lp_8_37 rfl rfl ?_
          first | refine pm_iincN 1 (L2 := [(0, _), (1, _), (2, _)]) d52_44 rfl (by decide) rfl ?_ | refine pm_iinc (L2 := [(0, _), (1, _), (2, _)]) d52_44 rfl rfl (by decide) rfl ?_
          refine pm_goto (tgt := 4) d52_47 rfl ?_
          refine ih (d + 1) _ _ (by omega) ?_ (fun c q => by rw [mset_other q]; exact g1 c q) (fun j q => by rw [mset_ne q]; exact g2 j q) (by simp [mset_get, Nat.add_assoc]) ?_
          · rw [Nat.pow_succ]; omega
          · rw [g4]
            simp only [rdg, c_13]
            rfl
  refine pm_iconst (v := nI 0) d52_0 (by decide) ?_
  refine pm_istore_n (i := 1) (L2 := [(0, _), (1, _)]) d52_1 rfl (by decide) rfl ?_
  refine pm_iconst (v := nI 0) d52_2 (by decide) ?_
  refine pm_istore_n (i := 2) (L2 := [(0, _), (1, _), (2, _)]) d52_3 rfl (by decide) rfl ?_
  exact lp 3 0 0 A rfl (by decide) (fun _ _ => rfl) (fun _ _ => rfl) hp rfl
theorem sp_51 {x : Txt} {p : Nat} {A : Mem} {Q : Int32 → Mem → Prop} (hx9 : okT x) (hT : TXA x A) (hp : A 47 2 = nI p) (hp2 : p < 800)
    (h0 : ∀ A2 : Mem, (∀ c, c ≠ 47 → A2 c = A c) → (∀ j, j < 2 → A2 47 j = A 47 j) → prs x p = none → Q (b2i false) A2)
    (h1 : ∀ (A2 : Mem) a b e, (∀ c, c ≠ 47 → A2 c = A c) → (∀ j, j < 2 → A2 47 j = A 47 j) → prs x p = some (a, b, e) → A2 47 2 = nI e → A2 47 3 = nI a → A2 47 4 = nI b → Q (b2i true) A2) : pm_P 51 0 [(0, .ref 47)] [] A Q := by
  have n31 := rdg_3 x p
  have n32 := rdg_3 x ((rdg x 3 p 0).1 + 1)
  refine pm_aload_n (i := 0) d51_0 rfl rfl ?_
  refine pm_aload_n (i := 0) d51_1 rfl rfl ?_
  refine pm_callV (k2 := 52) (As := []) d51_2 lk_8_19 ok_52 rfl rfl rfl (Nat.le_of_ble_eq_true rfl) rfl rfl rfl rfl rfl ⟨Nat.le_of_ble_eq_true rfl, Nat.le_of_ble_eq_true rfl⟩ (Nat.le_of_ble_eq_true rfl) ?_
  refine sp_52 hx9 hT hp (by omega) (fun A1 f1 f2 f3 => ?_)
  have hT1 : ∀ v, TXA x (mset A1 47 3 v) := fun v => TXA_put (TXA_keep hT (f2 1 (by decide)) (f1 48 (by decide))) (by decide)
  refine pm_putI d51_5 lp_8_23 rfl rfl ?_
  refine pm_aload_n (i := 0) d51_8 rfl rfl ?_
  refine pm_getE (v := (if (rdg x 3 p 0).1 = p then -1 else nI (rdg x 3 p 0).2)) d51_9 lf_8_23 rfl rfl (by rw [mset_at]) ?_
  refine pm_iconst (v := -1) d51_12 (by decide) ?_
  refine pm_icmp_eq (tgt := 25) d51_13 rfl (fun c_13 => ?_) (fun c_13 => ?_)
  · refine pm_iconst (v := nI 0) d51_25 (by decide) ?_
    refine pm_iret d51_26 rfl rfl ?_
    refine h0 _ (fun c q => by rw [mset_other q]; exact f1 c q) (fun j q => by rw [mset_ne (by omega)]; exact f2 j (by omega)) ?_
    by_cases e : (rdg x 3 p 0).1 = p
    · unfold prs; rw [if_pos e]
    · rw [if_neg e] at c_13
      exact absurd c_13 (by intro q; have := nI_pos (n := (rdg x 3 p 0).2) (by omega); rw [q] at this; exact this (by decide))
  · have e1 : ¬ (rdg x 3 p 0).1 = p := fun e => c_13 (by rw [if_pos e])
    rw [if_neg e1] 
    refine pm_aload_n (i := 0) d51_16 rfl rfl ?_
    refine pm_bipush (v := nI 45) d51_17 (by decide) ?_
    refine pm_callV (k2 := 54) (As := [_]) d51_19 lk_8_26 ok_54 rfl rfl rfl (Nat.le_of_ble_eq_true rfl) rfl rfl rfl rfl rfl ⟨Nat.le_of_ble_eq_true rfl, Nat.le_of_ble_eq_true rfl⟩ (Nat.le_of_ble_eq_true rfl) ?_
    refine sp_54 hx9 (hT1 _) (by rw [mset_ne (by decide)]; exact f3) (by omega) (by decide) (fun q => ?_) (fun q => ?_)
    · refine pm_if_neB (tgt := 27) d51_22 rfl (fun c => by cases c) (fun c => ?_)
      refine pm_iconst (v := nI 0) d51_25 (by decide) ?_
      refine pm_iret d51_26 rfl rfl ?_
      refine h0 _ (fun c q => by rw [mset_other q]; exact f1 c q) (fun j q => by rw [mset_ne (by omega)]; exact f2 j (by omega)) ?_
      unfold prs
      rw [if_neg e1, if_neg (by rw [q]; decide)]
    first | refine pm_if_neB (tgt := 27) d51_22 rfl (fun c_22 => ?_) (fun c_22 => ?_) | refine pm_if_neN (tgt := 27) d51_22 rfl (by omega) (fun c_22 => ?_) (fun c_22 => ?_) | refine pm_if_ne (tgt := 27) d51_22 rfl (fun c_22 => ?_) (fun c_22 => ?_)
    · refine pm_aload_n (i := 0) d51_27 rfl rfl ?_
      refine pm_aload_n (i := 0) d51_28 rfl rfl ?_
      refine pm_callV (k2 := 52) (As := []) d51_29 lk_8_19 ok_52 rfl rfl rfl (Nat.le_of_ble_eq_true rfl) rfl rfl rfl rfl rfl ⟨Nat.le_of_ble_eq_true rfl, Nat.le_of_ble_eq_true rfl⟩ (Nat.le_of_ble_eq_true rfl) ?_
      have hT2 : TXA x (mset (mset A1 47 3 (nI (rdg x 3 p 0).2)) 47 2 (nI ((rdg x 3 p 0).1 + 1))) := TXA_put (hT1 _) (by decide)
      refine sp_52 (p := (rdg x 3 p 0).1 + 1) hx9 hT2 (by rw [mset_at]) (by omega) (fun A2 k1 k2 k3 => ?_)
      have hT3 : ∀ v, TXA x (mset A2 47 4 v) := fun v => TXA_put (TXA_keep hT2 (k2 1 (by decide)) (k1 48 (by decide))) (by decide)
      have z1 : ∀ v, ∀ c, c ≠ 47 → mset A2 47 4 v c = A c := fun v c q => by rw [mset_other q, k1 c q, mset_other q, mset_other q]; exact f1 c q
      have z2 : ∀ v, ∀ j, j < 2 → mset A2 47 4 v 47 j = A 47 j := fun v j q => by rw [mset_ne (by omega), k2 j (by omega), mset_ne (by omega), mset_ne (by omega)]; exact f2 j (by omega)
      refine pm_putI d51_32 lp_8_30 rfl rfl ?_
      refine pm_aload_n (i := 0) d51_35 rfl rfl ?_
      refine pm_getE (v := (if (rdg x 3 ((rdg x 3 p 0).1 + 1) 0).1 = (rdg x 3 p 0).1 + 1 then -1 else nI (rdg x 3 ((rdg x 3 p 0).1 + 1) 0).2)) d51_36 lf_8_30 rfl rfl (by rw [mset_at]) ?_
      refine pm_iconst (v := -1) d51_39 (by decide) ?_
      refine pm_icmp_eq (tgt := 56) d51_40 rfl (fun c_40 => ?_) (fun c_40 => ?_)
      · refine pm_iconst (v := nI 0) d51_56 (by decide) ?_
        refine pm_iret d51_57 rfl rfl ?_
        refine h0 _ (z1 _) (z2 _) ?_
        by_cases e : (rdg x 3 ((rdg x 3 p 0).1 + 1) 0).1 = (rdg x 3 p 0).1 + 1
        · unfold prs; rw [if_neg e1, if_pos q, if_pos e]
        · rw [if_neg e] at c_40
          exact absurd c_40 (by intro q; have := nI_pos (n := (rdg x 3 ((rdg x 3 p 0).1 + 1) 0).2) (by omega); rw [q] at this; exact this (by decide))
      · have e2 : ¬ (rdg x 3 ((rdg x 3 p 0).1 + 1) 0).1 = (rdg x 3 p 0).1 + 1 := fun e => c_40 (by rw [if_pos e])
        rw [if_neg e2] 
        refine pm_aload_n (i := 0) d51_43 rfl rfl ?_
        refine pm_bipush (v := nI 59) d51_44 (by decide) ?_
        refine pm_callV (k2 := 54) (As := [_]) d51_46 lk_8_26 ok_54 rfl rfl rfl (Nat.le_of_ble_eq_true rfl) rfl rfl rfl rfl rfl ⟨Nat.le_of_ble_eq_true rfl, Nat.le_of_ble_eq_true rfl⟩ (Nat.le_of_ble_eq_true rfl) ?_
        refine sp_54 hx9 (hT3 _) (by rw [mset_ne (by decide)]; exact k3) (by omega) (by decide) (fun q3 => ?_) (fun q3 => ?_)
        · refine pm_if_eqB (tgt := 56) d51_49 rfl (fun c => ?_) (fun c => by cases c)
          refine pm_iconst (v := nI 0) d51_56 (by decide) ?_
          refine pm_iret d51_57 rfl rfl ?_
          refine h0 _ (z1 _) (z2 _) ?_
          unfold prs
          rw [if_neg e1, if_pos q, if_neg e2, if_neg (by rw [q3]; decide)]
        first | refine pm_if_eqB (tgt := 56) d51_49 rfl (fun c_49 => ?_) (fun c_49 => ?_) | refine pm_if_eqN (tgt := 56) d51_49 rfl (by omega) (fun c_49 => ?_) (fun c_49 => ?_) | refine pm_if_eq (tgt := 56) d51_49 rfl (fun c_49 => ?_) (fun c_49 => ?_)
        · cases c_49
        · refine pm_iconst (v := nI 1) d51_52 (by decide) ?_
          refine pm_goto (tgt := 57) d51_53 rfl ?_
          refine pm_iret d51_57 rfl (by first | rfl | exact nar_b _) ?_
          refine h1 _ (rdg x 3 p 0).2 (rdg x 3 ((rdg x 3 p 0).1 + 1) 0).2 ((rdg x 3 ((rdg x 3 p 0).1 + 1) 0).1 + 1) (fun c q => by rw [mset_other q]; exact z1 _ c q) (fun j q => by rw [mset_ne (by omega)]; exact z2 _ j q) ?_ (by rw [mset_at]) ?_ ?_
          · unfold prs
            rw [if_neg e1, if_pos q, if_neg e2, if_pos q3]
          · rw [mset_ne (by decide), mset_ne (by decide), k2 3 (by decide), mset_ne (by decide), mset_at]
          · rw [mset_ne (by decide), mset_at]
    · cases c_22
theorem sp_27 {A : Mem} {Q : Int32 → Mem → Prop} (h : Q 0 (mset (mset A 49 1 (nI 0)) 49 2 (nI 0))) : pm_P 27 0 [(0, .ref 49)] [] A Q := by
  refine pm_aload_n (i := 0) d27_0 rfl rfl ?_
  refine pm_iconst (v := nI 0) d27_1 (by decide) ?_
  refine pm_putI d27_2 lp_4_15 rfl rfl ?_
  refine pm_aload_n (i := 0) d27_5 rfl rfl ?_
  refine pm_iconst (v := nI 0) d27_6 (by decide) ?_
  refine pm_putI d27_7 lp_4_19 rfl rfl ?_
  refine pm_vret d27_10 rfl ?_
  exact h
theorem sp_28 {c k : Nat} {l : Nat → Nat} {A : Mem} {Q : Int32 → Mem → Prop} (hL : LI c l A) (hc : c < 20) (hk : k < 432) (hl9 : ∀ i, i < c → l i < 432) (h0 : anyN (fun i => decide (l i = k)) c = true → Q (b2i false) A) (h1 : anyN (fun i => decide (l i = k)) c = false → Q (b2i true) (mset (mset A 50 c (nI k)) 49 1 (nI (c + 1)))) : pm_P 28 0 [(0, .ref 49), (1, .int (nI k))] [] A Q := by
  have lp : ∀ i, i ≤ c → anyN (fun i => decide (l i = k)) i = false → pm_P 28 2 [(0, .ref 49), (1, .int (nI k)), (2, .int (nI i))] [] A Q := by
    refine up_ind (fun i hi9 ih hz => ?_)
    refine pm_iload_n (i := 2) d28_2 rfl rfl ?_
    refine pm_aload_n (i := 0) d28_3 rfl rfl ?_
    refine pm_getE (v := nI c) d28_4 lf_4_15 rfl rfl (by first | exact hL.1 | simp [mset_get, hL.1]) ?_
    first | refine pm_icmp_geN (tgt := 28) d28_7 rfl (by omega) (by omega) (fun c_7 => ?_) (fun c_7 => ?_) | refine pm_icmp_ge (tgt := 28) d28_7 rfl (fun c_7 => ?_) (fun c_7 => ?_)
    · refine pm_aload_n (i := 0) d28_28 rfl rfl ?_
      refine pm_getE (v := nI c) d28_29 lf_4_15 rfl rfl (by first | exact hL.1 | simp [mset_get, hL.1]) ?_
      refine pm_bipush (v := nI 20) d28_32 (by decide) ?_
      first | refine pm_icmp_geN (tgt := 57) d28_34 rfl (by omega) (by omega) (fun c_34 => ?_) (fun c_34 => ?_) | refine pm_icmp_ge (tgt := 57) d28_34 rfl (fun c_34 => ?_) (fun c_34 => ?_)
      · omega
      · refine pm_aload_n (i := 0) d28_37 rfl rfl ?_
        refine pm_getR d28_38 lf_4_9 rfl rfl ?_
        refine pm_aload_n (i := 0) d28_41 rfl rfl ?_
        refine pm_getE (v := nI c) d28_42 lf_4_15 rfl rfl (by first | exact hL.1 | simp [mset_get, hL.1]) ?_
        refine pm_iload_n (i := 1) d28_45 rfl rfl ?_
        refine pm_iastN d28_46 rfl (by decide) (by omega) ?_
        refine pm_aload_n (i := 0) d28_47 rfl rfl ?_
        refine pm_dup d28_48 rfl ?_
        refine pm_getE (v := nI c) d28_49 lf_4_15 rfl rfl (by first | exact hL.1 | simp [mset_get, hL.1]) ?_
        refine pm_iconst (v := nI 1) d28_52 (by decide) ?_
        first | refine pm_iaddN d28_53 ?_ | refine pm_iadd d28_53 ?_
        refine pm_putI d28_54 lp_4_15 rfl rfl ?_
        refine pm_iconst (v := nI 1) d28_57 (by decide) ?_
        refine pm_iret d28_58 rfl (by first | rfl | exact nar_b _) ?_
        have e : i = c := by omega
        rw [e] at hz
        exact h1 hz
    · have li := hl9 i c_7 
      refine pm_aload_n (i := 0) d28_10 rfl rfl ?_
      refine pm_getR d28_11 lf_4_9 rfl rfl ?_
      refine pm_iload_n (i := 2) d28_14 rfl rfl ?_
      refine pm_ialdN d28_15 rfl (by decide) (by omega) ?_
      rw [hL.2 i c_7]
      refine pm_iload_n (i := 1) d28_16 rfl rfl ?_
      first | refine pm_icmp_neN (tgt := 22) d28_17 rfl (by omega) (by omega) (fun c_17 => ?_) (fun c_17 => ?_) | refine pm_icmp_ne (tgt := 22) d28_17 rfl (fun c_17 => ?_) (fun c_17 => ?_)
      · first | refine pm_iincN 1 (L2 := [(0, _), (1, _), (2, _)]) d28_22 rfl (by decide) rfl ?_ | refine pm_iinc (L2 := [(0, _), (1, _), (2, _)]) d28_22 rfl rfl (by decide) rfl ?_
        refine pm_goto (tgt := 2) d28_25 rfl ?_
        exact ih c_7 (anyN_f hz (decide_eq_false c_17))
      · refine pm_iconst (v := nI 0) d28_20 (by decide) ?_
        refine pm_iret d28_21 rfl (by first | rfl | exact nar_b _) ?_
        exact h0 (anyN_t c_7 (decide_eq_true c_17))
  refine pm_iconst (v := nI 0) d28_0 (by decide) ?_
  refine pm_istore_n (i := 2) (L2 := [(0, _), (1, _), (2, _)]) d28_1 rfl (by decide) rfl ?_
  exact lp 0 (Nat.zero_le _) rfl
theorem btw_opI {f a b : Nat} : opI (-1) ((fst (fun j => decide (lh f (a * 6 + j) = b)) (dg f a)).map (fun j => lk f (a * 6 + j))) = opI (-1) (btw f a b) := rfl
theorem sp_111 {s : Stt} {x : Txt} {p c : Nat} {l : Nat → Nat} {A : Mem} {Q : Int32 → Mem → Prop} (hI : CI s A) (hx9 : okT x) (hT : TXA x A) (hp : A 47 2 = nI p) (hp2 : p < 800) (hL : LI c l A) (hc : c < 20) (hl9 : LOK s c l)
    (h : ∀ A2 : Mem, (∀ q, q ≠ 47 → q ≠ 49 → q ≠ 50 → A2 q = A q) → A2 47 0 = A 47 0 → A2 47 1 = A 47 1 → A2 49 2 = A 49 2 → ((rsn s x p c l).1 = 0 → A2 47 2 = nI (rsn s x p c l).2.2 ∧ LI (c + 1) (uN l c (rsn s x p c l).2.1) A2) → Q (nI (rsn s x p c l).1) A2) : pm_P 111 0 [(0, .ref 0)] [] A Q := by
  obtain ⟨F1, F6, -⟩ := hI.1
  have hb := CI_bd hI
  have bad : ∀ (A2 : Mem) (r : Nat), (∀ q, q ≠ 47 → A2 q = A q) → (∀ j, j < 2 → A2 47 j = A 47 j) → rsn s x p c l = (r, 0, 0) → ¬ r = 0 → Q (nI r) A2 := by
    intro A2 r g1 g2 g3 g4
    have := h A2 (fun q q1 _ _ => g1 q q1) (g2 0 (by decide)) (g2 1 (by decide)) (by rw [g1 49 (by decide)]) (fun q => by rw [g3] at q; exact absurd q g4)
    rw [g3] at this
    exact this
  refine pm_aload_n (i := 0) d111_0 rfl rfl ?_
  refine pm_getR d111_1 lf_10_68 rfl rfl ?_
  refine pm_callV (k2 := 51) (As := []) d111_4 lk_10_363 ok_51 rfl rfl rfl (Nat.le_of_ble_eq_true rfl) rfl rfl rfl rfl rfl ⟨Nat.le_of_ble_eq_true rfl, Nat.le_of_ble_eq_true rfl⟩ (Nat.le_of_ble_eq_true rfl) ?_
  refine sp_51 hx9 hT hp hp2 (fun A2 f1 f2 f3 => ?_) (fun A2 a b e f1 f2 f3 f4 f5 f6 => ?_)
  · refine pm_if_neB (tgt := 12) d111_7 rfl (fun c => by cases c) (fun c => ?_)
    refine pm_iconst (v := nI 1) d111_10 (by decide) ?_
    refine pm_iret d111_11 rfl rfl ?_
    exact bad A2 1 f1 f2 (by unfold rsn; rw [f3]) (by decide)
  have hI2 : CI s A2 := CI_keep hI (fun c hc => f1 c (by omega))
  have pb := prs_bd f3
  have h47 : rsn s x p c l = if nh (sF s) ≤ a ∨ nh (sF s) ≤ b then (2, 0, 0) else match btw (sF s) a b with
    | none => (3, 0, 0)
    | some k => if b < a then (3, 0, 0) else if sM s k = true then (4, 0, 0) else if anyN (fun i => decide (l i = k)) c = true then (5, 0, 0) else (0, k, e) := by
    unfold rsn; rw [f3]
  first | refine pm_if_neB (tgt := 12) d111_7 rfl (fun c_7 => ?_) (fun c_7 => ?_) | refine pm_if_neN (tgt := 12) d111_7 rfl (by omega) (fun c_7 => ?_) (fun c_7 => ?_) | refine pm_if_ne (tgt := 12) d111_7 rfl (fun c_7 => ?_) (fun c_7 => ?_)
  · refine pm_aload_n (i := 0) d111_12 rfl rfl ?_
    refine pm_aload_n (i := 0) d111_13 rfl rfl ?_
    refine pm_getR d111_14 lf_10_68 rfl rfl ?_
    refine pm_getE d111_17 lf_10_367 rfl rfl (f5) ?_
    refine pm_callV (k2 := 86) (As := [_]) d111_20 lk_10_156 ok_86 rfl rfl rfl (Nat.le_of_ble_eq_true rfl) rfl rfl rfl rfl rfl ⟨Nat.le_of_ble_eq_true rfl, Nat.le_of_ble_eq_true rfl⟩ (Nat.le_of_ble_eq_true rfl) ?_
    refine sp_86 hI2 ?_
    first | refine pm_if_eqB (tgt := 40) d111_23 rfl (fun c_23 => ?_) (fun c_23 => ?_) | refine pm_if_eqN (tgt := 40) d111_23 rfl (by omega) (fun c_23 => ?_) (fun c_23 => ?_) | refine pm_if_eq (tgt := 40) d111_23 rfl (fun c_23 => ?_) (fun c_23 => ?_)
    · refine pm_iconst (v := nI 2) d111_40 (by decide) ?_
      refine pm_iret d111_41 rfl rfl ?_
      refine bad A2 2 f1 f2 ?_ (by decide)
      rw [h47, if_pos]
      rcases Nat.lt_or_ge a (nh (sF s)) with q | q
      · rw [inN_nI q (by omega)] at c_23; cases c_23
      · exact Or.inl q
    · refine pm_aload_n (i := 0) d111_26 rfl rfl ?_
      refine pm_aload_n (i := 0) d111_27 rfl rfl ?_
      refine pm_getR d111_28 lf_10_68 rfl rfl ?_
      refine pm_getE d111_31 lf_10_370 rfl rfl (f6) ?_
      refine pm_callV (k2 := 86) (As := [_]) d111_34 lk_10_156 ok_86 rfl rfl rfl (Nat.le_of_ble_eq_true rfl) rfl rfl rfl rfl rfl ⟨Nat.le_of_ble_eq_true rfl, Nat.le_of_ble_eq_true rfl⟩ (Nat.le_of_ble_eq_true rfl) ?_
      refine sp_86 hI2 ?_
      first | refine pm_if_neB (tgt := 42) d111_37 rfl (fun c_37 => ?_) (fun c_37 => ?_) | refine pm_if_neN (tgt := 42) d111_37 rfl (by omega) (fun c_37 => ?_) (fun c_37 => ?_) | refine pm_if_ne (tgt := 42) d111_37 rfl (fun c_37 => ?_) (fun c_37 => ?_)
      · obtain ⟨a2, ha2, ea⟩ := inN_of (by omega) (by omega) c_23
        obtain ⟨b2, hb2, eb⟩ := inN_of (by omega) (by omega) c_37
        have ea := (nI_inj (by omega) (by omega)).mp ea
        have eb := (nI_inj (by omega) (by omega)).mp eb
        have ha : a < nh (sF s) := by omega
        have hb9 : b < nh (sF s) := by omega
        rw [if_neg (by omega)] at h47 
        refine pm_aload_n (i := 0) d111_42 rfl rfl ?_
        refine pm_getR d111_43 lf_10_19 rfl rfl ?_
        refine pm_aload_n (i := 0) d111_46 rfl rfl ?_
        refine pm_getR d111_47 lf_10_68 rfl rfl ?_
        refine pm_getE d111_50 lf_10_367 rfl rfl (f5) ?_
        refine pm_aload_n (i := 0) d111_53 rfl rfl ?_
        refine pm_getR d111_54 lf_10_68 rfl rfl ?_
        refine pm_getE d111_57 lf_10_370 rfl rfl (f6) ?_
        refine pm_callV (k2 := 48) (As := [_, _]) d111_60 lk_10_206 ok_48 rfl rfl rfl (Nat.le_of_ble_eq_true rfl) rfl rfl rfl rfl rfl ⟨Nat.le_of_ble_eq_true rfl, Nat.le_of_ble_eq_true rfl⟩ (Nat.le_of_ble_eq_true rfl) ?_
        refine sp_48 F1 F6 hI2.2.1.2.1 ha hb9 ?_
        rw [btw_opI]
        refine pm_istore_n (i := 1) (L2 := [(0, _), (1, _)]) d111_63 rfl (by decide) rfl ?_
        refine pm_iload_n (i := 1) d111_64 rfl rfl ?_
        refine pm_iconst (v := -1) d111_65 (by decide) ?_
        refine pm_icmp_eq (tgt := 86) d111_66 rfl (fun c_66 => ?_) (fun c_66 => ?_)
        · refine pm_iconst (v := nI 3) d111_86 (by decide) ?_
          refine pm_iret d111_87 rfl rfl ?_
          refine bad A2 3 f1 f2 ?_ (by decide)
          rw [h47]
          cases e9 : btw (sF s) a b with
          | none => rfl
          | some k =>
            rw [e9] at c_66
            have := btw_lt F1 F6 ha e9
            exact absurd c_66 (by intro q; have := nI_pos (n := k) (by omega); rw [show opI (-1) (some k) = nI k from rfl] at q; rw [q] at this; exact this (by decide))
        · obtain ⟨k, e9⟩ : ∃ k, btw (sF s) a b = some k := by
            cases e9 : btw (sF s) a b with
            | none => rw [e9] at c_66; exact absurd rfl c_66
            | some k => exact ⟨k, rfl⟩
          rw [e9] at h47 ⊢
          rw [show opI (-1) (some k) = nI k from rfl]
          dsimp only at h47
          have hk := btw_lt F1 F6 ha e9
          refine pm_aload_n (i := 0) d111_69 rfl rfl ?_
          refine pm_getR d111_70 lf_10_68 rfl rfl ?_
          refine pm_getE d111_73 lf_10_367 rfl rfl (f5) ?_
          refine pm_aload_n (i := 0) d111_76 rfl rfl ?_
          refine pm_getR d111_77 lf_10_68 rfl rfl ?_
          refine pm_getE d111_80 lf_10_370 rfl rfl (f6) ?_
          first | refine pm_icmp_leN (tgt := 88) d111_83 rfl (by omega) (by omega) (fun c_83 => ?_) (fun c_83 => ?_) | refine pm_icmp_le (tgt := 88) d111_83 rfl (fun c_83 => ?_) (fun c_83 => ?_)
          · rw [if_neg (by omega)] at h47 
            refine pm_aload_n (i := 0) d111_88 rfl rfl ?_
            refine pm_getR d111_89 lf_10_40 rfl rfl ?_
            refine pm_getR d111_92 lf_10_227 rfl rfl ?_
            refine pm_iload_n (i := 1) d111_95 rfl rfl ?_
            refine pm_zaldN d111_96 rfl (by decide) (by omega) ?_
            rw [CI_ms hI2 (by omega)]
            first | refine pm_if_eqB (tgt := 102) d111_97 rfl (fun c_97 => ?_) (fun c_97 => ?_) | refine pm_if_eqN (tgt := 102) d111_97 rfl (by omega) (fun c_97 => ?_) (fun c_97 => ?_) | refine pm_if_eq (tgt := 102) d111_97 rfl (fun c_97 => ?_) (fun c_97 => ?_)
            · rw [if_neg (by rw [c_97]; decide)] at h47 
              refine pm_aload_n (i := 0) d111_102 rfl rfl ?_
              refine pm_getR d111_103 lf_10_75 rfl rfl ?_
              refine pm_iload_n (i := 1) d111_106 rfl rfl ?_
              refine pm_callV (k2 := 28) (As := [_]) d111_107 lk_10_373 ok_28 rfl rfl rfl (Nat.le_of_ble_eq_true rfl) rfl rfl rfl rfl rfl ⟨Nat.le_of_ble_eq_true rfl, Nat.le_of_ble_eq_true rfl⟩ (Nat.le_of_ble_eq_true rfl) ?_
              refine sp_28 (c := c) (l := l) (by unfold LI at *; rw [f1 49 (by decide), f1 50 (by decide)]; exact hL) hc (by omega) (fun i hi9 => by have := (hl9 i hi9).1; omega) (fun q => ?_) (fun q => ?_)
              · refine pm_if_eqB (tgt := 117) d111_110 rfl (fun c => ?_) (fun c => by cases c)
                refine pm_iconst (v := nI 5) d111_117 (by decide) ?_
                refine pm_iret d111_118 rfl rfl ?_
                refine bad A2 5 f1 f2 ?_ (by decide)
                rw [h47, if_pos q]
              first | refine pm_if_eqB (tgt := 117) d111_110 rfl (fun c_110 => ?_) (fun c_110 => ?_) | refine pm_if_eqN (tgt := 117) d111_110 rfl (by omega) (fun c_110 => ?_) (fun c_110 => ?_) | refine pm_if_eq (tgt := 117) d111_110 rfl (fun c_110 => ?_) (fun c_110 => ?_)
              · cases c_110
              · refine pm_iconst (v := nI 0) d111_113 (by decide) ?_
                refine pm_goto (tgt := 118) d111_114 rfl ?_
                refine pm_iret d111_118 rfl (by first | rfl | exact nar_b _) ?_
                rw [if_neg (by rw [q]; decide)] at h47
                rw [h47] at h
                refine h _ (fun c2 q1 q2 q3 => by rw [mset_other q2, mset_other q3]; exact f1 c2 q1) ?_ ?_ ?_ (fun _ => ⟨?_, ?_, fun i hi9 => ?_⟩)
                · rw [mset_other (by decide), mset_other (by decide)]; exact f2 0 (by decide)
                · rw [mset_other (by decide), mset_other (by decide)]; exact f2 1 (by decide)
                · rw [mset_ne (by decide), mset_other (by decide), f1 49 (by decide)]
                · rw [mset_other (by decide), mset_other (by decide)]; exact f4
                · rw [mset_at]
                · rw [mset_other (by decide)]
                  dsimp only
                  by_cases e5 : i = c
                  · rw [e5, uN_at, mset_at]
                  · rw [uN_ne e5, mset_ne e5, f1 50 (by decide)]
                    exact hL.2 i (by omega)
            · refine pm_iconst (v := nI 4) d111_100 (by decide) ?_
              refine pm_iret d111_101 rfl (by first | rfl | exact nar_b _) ?_
              refine bad A2 4 f1 f2 ?_ (by decide)
              rw [h47, if_pos c_97]
          · refine pm_iconst (v := nI 3) d111_86 (by decide) ?_
            refine pm_iret d111_87 rfl rfl ?_
            refine bad A2 3 f1 f2 ?_ (by decide)
            rw [h47, if_pos (by omega)]
      · refine pm_iconst (v := nI 2) d111_40 (by decide) ?_
        refine pm_iret d111_41 rfl (by first | rfl | exact nar_b _) ?_
        refine bad A2 2 f1 f2 ?_ (by decide)
        rw [h47, if_pos]
        rcases Nat.lt_or_ge b (nh (sF s)) with q | q
        · rw [inN_nI q (by omega)] at c_37; cases c_37
        · exact Or.inr q
  · cases c_7
theorem sp_110 {s : Stt} {x : Txt} {A : Mem} {Q : Int32 → Mem → Prop} (hI : CI s A) (hx9 : okT x) (hT : TXA x A)
    (h : ∀ A2 : Mem, (∀ q, q ≠ 47 → q ≠ 49 → q ≠ 50 → A2 q = A q) → TXA x A2 → A2 49 2 = nI (rd0 s x).1 → (¬ (rd0 s x).1 = 0 → A2 49 3 = nI (rd0 s x).2.1) → ((rd0 s x).1 = 0 → LI (rd0 s x).2.2.1 (rd0 s x).2.2.2 A2) → Q 0 A2) : pm_P 110 0 [(0, .ref 0)] [] A Q := by
  obtain ⟨F1, F6, -⟩ := hI.1
  have lp : ∀ k c p l (A1 : Mem), k + c = 20 → LOK s c l → p ≤ x.1 → (∀ q, q ≠ 47 → q ≠ 49 → q ≠ 50 → A1 q = A q) → TXA x A1 → A1 47 2 = nI p → A1 49 2 = nI 0 → LI c l A1 → rd0 s x = rdt s x k p c l → pm_P 110 17 [(0, .ref 0), (1, .int (nI c))] [] A1 Q := by
    intro k
    induction k with
    | zero =>
      intro c p l A1 hkc hl9 hpx g1 g2 g3 g4 g5 g6
      refine pm_iload_n (i := 1) d110_17 rfl rfl ?_
      refine pm_bipush (v := nI 20) d110_18 (by decide) ?_
      first | refine pm_icmp_geN (tgt := 80) d110_20 rfl (by omega) (by omega) (fun c_20 => ?_) (fun c_20 => ?_) | refine pm_icmp_ge (tgt := 80) d110_20 rfl (fun c_20 => ?_) (fun c_20 => ?_)
      · refine pm_vret d110_80 rfl ?_
        have e : rd0 s x = (0, p, c, l) := g6
        refine h A1 g1 g2 (by rw [e]; exact g4) (fun q => absurd (by rw [e]) q) (fun _ => by rw [e]; exact g5)
      · omega
    | succ k ih =>
      intro c p l A1 hkc hl9 hpx g1 g2 g3 g4 g5 g6
      have hI1 : CI s A1 := CI_keep hI (fun c hc => g1 c (by omega) (by omega) (by omega))
      have x1 := hx9.1
      refine pm_iload_n (i := 1) d110_17 rfl rfl ?_
      refine pm_bipush (v := nI 20) d110_18 (by decide) ?_
      first | refine pm_icmp_geN (tgt := 80) d110_20 rfl (by omega) (by omega) (fun c_20 => ?_) (fun c_20 => ?_) | refine pm_icmp_ge (tgt := 80) d110_20 rfl (fun c_20 => ?_) (fun c_20 => ?_)
      · omega
      · refine pm_aload_n (i := 0) d110_23 rfl rfl ?_
        refine pm_getR d110_24 lf_10_68 rfl rfl ?_
        refine pm_getE d110_27 lf_10_357 rfl rfl (g3) ?_
        refine pm_aload_n (i := 0) d110_30 rfl rfl ?_
        refine pm_getR d110_31 lf_10_68 rfl rfl ?_
        refine pm_getE d110_34 lf_10_146 rfl rfl (g2.1) ?_
        first | refine pm_icmp_geN (tgt := 80) d110_37 rfl (by omega) (by omega) (fun c_37 => ?_) (fun c_37 => ?_) | refine pm_icmp_ge (tgt := 80) d110_37 rfl (fun c_37 => ?_) (fun c_37 => ?_)
        · refine pm_vret d110_80 rfl ?_
          have e : rd0 s x = (0, p, c, l) := by rw [g6]; simp only [rdt]; rw [if_neg (by omega)]
          refine h A1 g1 g2 (by rw [e]; exact g4) (fun q => absurd (by rw [e]) q) (fun _ => by rw [e]; exact g5)
        · have hr5 : (rsn s x p c l).1 ≤ 5 := by
            have := (rdt_ok (x := x) F1 F6 1 p c l hl9).2.2.1
            simp only [rdt, if_pos c_37] at this
            by_cases q : (rsn s x p c l).1 = 0
            · omega
            · rw [if_neg q] at this; exact this
          simp only [rdt, if_pos c_37] at g6 
          refine pm_aload_n (i := 0) d110_40 rfl rfl ?_
          refine pm_getR d110_41 lf_10_68 rfl rfl ?_
          refine pm_getE d110_44 lf_10_357 rfl rfl (g3) ?_
          refine pm_istore_n (i := 2) (L2 := [(0, _), (1, _), (2, _)]) d110_47 rfl (by decide) rfl ?_
          refine pm_aload_n (i := 0) d110_48 rfl rfl ?_
          refine pm_callV (k2 := 111) (As := []) d110_49 lk_10_360 ok_111 rfl rfl rfl (Nat.le_of_ble_eq_true rfl) rfl rfl rfl rfl rfl ⟨Nat.le_of_ble_eq_true rfl, Nat.le_of_ble_eq_true rfl⟩ (Nat.le_of_ble_eq_true rfl) ?_
          refine sp_111 hI1 hx9 g2 g3 (by omega) g5 (by omega) hl9 (fun A2 f1 f2 f3 f4 f5 => ?_)
          have hT2 : TXA x A2 := TXA_keep g2 f3 (f1 48 (by decide) (by decide) (by decide))
          refine pm_istore_n (i := 3) (L2 := [(0, _), (1, _), (2, _), (3, _)]) d110_52 rfl (by decide) rfl ?_
          refine pm_iload_n (i := 3) d110_53 rfl rfl ?_
          refine pm_if_eqN (tgt := 74) d110_54 rfl (by omega) (fun c_54 => ?_) (fun c_54 => ?_)
          · first | refine pm_iincN 1 (L2 := [(0, _), (1, _), (2, _), (3, _)]) d110_74 rfl (by decide) rfl ?_ | refine pm_iinc (L2 := [(0, _), (1, _), (2, _), (3, _)]) d110_74 rfl rfl (by decide) rfl ?_
            refine pm_goto (tgt := 17) d110_77 rfl ?_
            refine pm_pick [0, 1] (L2 := [(0, _), (1, _)]) rfl ?_
            rw [if_pos c_54] at g6
            obtain ⟨q1, q2⟩ := f5 c_54
            have r := rsn_ok F1 F6 c_54
            refine ih (c + 1) _ _ A2 (by omega) (LOK_add F1 F6 hl9 c_54) r.2.2.2.2 (fun q q1 q2 q3 => by rw [f1 q q1 q2 q3]; exact g1 q q1 q2 q3) hT2 q1 (by rw [f4]; exact g4) q2 g6
          · refine pm_aload_n (i := 0) d110_57 rfl rfl ?_
            refine pm_getR d110_58 lf_10_75 rfl rfl ?_
            refine pm_iload_n (i := 2) d110_61 rfl rfl ?_
            refine pm_putI d110_62 lp_10_303 rfl rfl ?_
            refine pm_aload_n (i := 0) d110_65 rfl rfl ?_
            refine pm_getR d110_66 lf_10_75 rfl rfl ?_
            refine pm_iload_n (i := 3) d110_69 rfl rfl ?_
            refine pm_putI d110_70 lp_10_300 rfl rfl ?_
            refine pm_vret d110_73 rfl ?_
            rw [if_neg (by omega)] at g6
            have e1 : (rd0 s x).1 = (rsn s x p c l).1 := by rw [g6]
            refine h _ (fun q q1 q2 q3 => ?_) (TXA_keep hT2 ?_ ?_) ?_ (fun _ => ?_) (fun q => by omega)
            · rw [mset_other q2, mset_other q2, f1 q q1 q2 q3]; exact g1 q q1 q2 q3
            · rw [mset_other (by decide), mset_other (by decide)]
            · rw [mset_other (by decide), mset_other (by decide)]
            · rw [mset_at, e1]
            · rw [mset_ne (by decide), mset_at, g6]
  refine pm_aload_n (i := 0) d110_0 rfl rfl ?_
  refine pm_getR d110_1 lf_10_75 rfl rfl ?_
  refine pm_callVv (k2 := 27) (As := []) d110_4 lk_10_356 ok_27 rfl rfl rfl (Nat.le_of_ble_eq_true rfl) rfl rfl rfl rfl rfl ⟨Nat.le_of_ble_eq_true rfl, Nat.le_of_ble_eq_true rfl⟩ (Nat.le_of_ble_eq_true rfl) ?_
  refine sp_27 ?_
  refine pm_aload_n (i := 0) d110_7 rfl rfl ?_
  refine pm_getR d110_8 lf_10_68 rfl rfl ?_
  refine pm_iconst (v := nI 0) d110_11 (by decide) ?_
  refine pm_putI d110_12 lp_10_357 rfl rfl ?_
  refine pm_iconst (v := nI 0) d110_15 (by decide) ?_
  refine pm_istore_n (i := 1) (L2 := [(0, _), (1, _)]) d110_16 rfl (by decide) rfl ?_
  refine lp 20 0 0 (fun _ => 0) _ rfl (LOK_0 _ _) (Nat.zero_le _) (fun q q1 q2 q3 => by rw [mset_other q1, mset_other q2, mset_other q2]) (TXA_put (TXA_keep hT ?_ ?_) (by decide)) (by rw [mset_at]) ?_ ⟨?_, fun i hi9 => absurd hi9 (Nat.not_lt_zero i)⟩ rfl
  · rw [mset_other (by decide), mset_other (by decide)]
  · rw [mset_other (by decide), mset_other (by decide)]
  · rw [mset_other (by decide), mset_at]
  · rw [mset_other (by decide), mset_ne (by decide), mset_at]
theorem sp_50 {x : Txt} {c : Nat} {A : Mem} {Q : Int32 → Mem → Prop} (hT : TXA x A) (hx9 : okT x) (hc : c ≤ 126) (h0 : 80 ≤ x.1 → Q (b2i false) A) (h1 : x.1 < 80 → Q (b2i true) (mset (mset A 48 x.1 (nI c)) 47 1 (nI (x.1 + 1)))) : pm_P 50 0 [(0, .ref 47), (1, .int (nI c))] [] A Q := by
  have x1 := hx9.1
  have hn : ∀ c, c ≤ 126 → vp_nar .char (nI c) = nI c := by decide
  refine pm_aload_n (i := 0) d50_0 rfl rfl ?_
  refine pm_getE (v := nI x.1) d50_1 lf_8_15 rfl rfl (by first | exact hT.1 | (rw [mset_other (by decide), hT.1])) ?_
  refine pm_bipush (v := nI 80) d50_4 (by decide) ?_
  first | refine pm_icmp_ltN (tgt := 11) d50_6 rfl (by omega) (by omega) (fun c_6 => ?_) (fun c_6 => ?_) | refine pm_icmp_lt (tgt := 11) d50_6 rfl (fun c_6 => ?_) (fun c_6 => ?_)
  · refine pm_aload_n (i := 0) d50_11 rfl rfl ?_
    refine pm_getR d50_12 lf_8_9 rfl rfl ?_
    refine pm_aload_n (i := 0) d50_15 rfl rfl ?_
    refine pm_getE (v := nI x.1) d50_16 lf_8_15 rfl rfl (by first | exact hT.1 | (rw [mset_other (by decide), hT.1])) ?_
    refine pm_iload_n (i := 1) d50_19 rfl rfl ?_
    refine pm_castN d50_20 rfl (by decide) (by omega) (hn c hc) ?_
    refine pm_aload_n (i := 0) d50_21 rfl rfl ?_
    refine pm_dup d50_22 rfl ?_
    refine pm_getE (v := nI x.1) d50_23 lf_8_15 rfl rfl (by first | exact hT.1 | (rw [mset_other (by decide), hT.1])) ?_
    refine pm_iconst (v := nI 1) d50_26 (by decide) ?_
    first | refine pm_iaddN d50_27 ?_ | refine pm_iadd d50_27 ?_
    refine pm_putI d50_28 lp_8_15 rfl rfl ?_
    refine pm_iconst (v := nI 1) d50_31 (by decide) ?_
    refine pm_iret d50_32 rfl (by first | rfl | exact nar_b _) ?_
    exact h1 c_6
  · refine pm_iconst (v := nI 0) d50_9 (by decide) ?_
    refine pm_iret d50_10 rfl (by first | rfl | exact nar_b _) ?_
    exact h0 c_6
