/-! shifts, longs on naturals, the first of a row -/
section PMO
variable {k pc : Nat} {L : Lcs} {st : List Value} {A : Mem} {Q : Int32 → Mem → Prop}
theorem pm_ishr {x y : Int32} (hd : decode (pm_c k) pc = .ok (.ishr, 1)) (h : pm_P k (pc + 1) L (.int (x >>> (y &&& 31)) :: st) A Q) : pm_P k pc L (.int y :: .int x :: st) A Q := by
  intro p l e s m args below meth c ad D tyc H locs ls C hP hS hL
  exact lv_ishr C.1 C.2.1 hd (h p l e s m args below meth c ad D tyc H locs ls C hP hS hL)
theorem pm_i2lN {x : Nat} (hd : decode (pm_c k) pc = .ok (.i2l, 1)) (hx : x < 2 ^ 31) (h : pm_P k (pc + 1) L (.long (lN x) :: st) A Q) : pm_P k pc L (.int (nI x) :: st) A Q := pm_i2l hd (nI_l hx) h
theorem pm_lmulN {x y : Nat} (hd : decode (pm_c k) pc = .ok (.lmul, 1)) (h : pm_P k (pc + 1) L (.long (lN (x * y)) :: st) A Q) : pm_P k pc L (.long (lN y) :: .long (lN x) :: st) A Q := pm_lmul hd (by rw [lN_mul]; exact h)
end PMO
theorem lN_le63 {a b : Nat} (ha : a < 2 ^ 63) (hb : b < 2 ^ 63) : lN a ≤ lN b ↔ a ≤ b := by
  rw [Int64.le_iff_toInt_le]
  unfold lN
  rw [lg_ofNat_toInt ha, lg_ofNat_toInt hb]
  omega
theorem lN_lt63 {a b : Nat} (ha : a < 2 ^ 63) (hb : b < 2 ^ 63) : lN a < lN b ↔ a < b := by
  rw [Int64.lt_iff_toInt_lt]
  unfold lN
  rw [lg_ofNat_toInt ha, lg_ofNat_toInt hb]
  omega
theorem lN_neg {a b : Nat} (h : a < b) (hb : b < 2 ^ 62) : lN a - lN b < 0 := by
  rw [Int64.lt_iff_toInt_lt, Int64.toInt_sub]
  unfold lN
  rw [lg_ofNat_toInt (by omega), lg_ofNat_toInt (by omega), Jvm.Kit.bmod64 (by omega) (by omega)]
  show _ < (0 : Int)
  omega
theorem nI_half : ∀ j, j < 12 → nI (2 ^ (j + 1) / 2) >>> (nI 1 &&& 31) = nI (2 ^ j / 2) := by decide +kernel
/-- the first place below n with p -/
def fst (p : Nat → Bool) : Nat → Option Nat
  | 0 => none
  | n + 1 => match fst p n with
    | some i => some i
    | none => if p n then some n else none
theorem fst_n {p : Nat → Bool} {i : Nat} (h : fst p i = none) (h2 : p i = false) : fst p (i + 1) = none := by simp [fst, h, h2]
theorem fst_s {p : Nat → Bool} {i n : Nat} (h : fst p i = none) (h2 : p i = true) (hn : i < n) : fst p n = some i := by
  induction n with
  | zero => omega
  | succ n ih =>
    by_cases e : i = n
    · subst e; simp [fst, h, h2]
    · simp [fst, ih (by omega)]
theorem fst_congr {p q : Nat → Bool} {n : Nat} (h : ∀ i, i < n → p i = q i) : fst p n = fst q n := by
  induction n with
  | zero => rfl
  | succ n ih => simp only [fst]; rw [ih (fun i hi => h i (by omega)), h n (by omega)]
theorem fst_lt {p : Nat → Bool} {n i : Nat} (h : fst p n = some i) : i < n ∧ p i = true := by
  induction n with
  | zero => cases h
  | succ n ih =>
    simp only [fst] at h
    cases e : fst p n with
    | some j => rw [e] at h; cases h; exact ⟨by have := (ih e).1; omega, (ih e).2⟩
    | none =>
      rw [e] at h
      by_cases h2 : p n = true
      · rw [if_pos h2] at h; cases h; exact ⟨by omega, h2⟩
      · rw [if_neg h2] at h; cases h
/-- its number, or another answer -/
def opI (d : Int32) : Option Nat → Int32
  | some i => nI i
  | none => d
