/-! the walk: fewest struts between two hubs -/
def opn (s : Stt) (k : Nat) : Bool := ks s k && !sM s k
/-- a strut that is kept and there joins a and b -/
def Ed (s : Stt) (a b : Nat) : Prop := ∃ k, k < ns (sF s) ∧ opn s k = true ∧ ((lo (sF s) k = a ∧ hi (sF s) k = b) ∨ (hi (sF s) k = a ∧ lo (sF s) k = b))
/-- b lies within n struts of u -/
def bal (s : Stt) (u : Nat) : Nat → Nat → Prop
  | 0, b => b = u
  | n + 1, b => bal s u n b ∨ ∃ a, a < nh (sF s) ∧ bal s u n a ∧ Ed s a b
def WayIs (s : Stt) (u v : Nat) (ans : Int32) : Prop := (∃ d, d < 146 ∧ ans = nI d ∧ bal s u d v ∧ ∀ m, m < d → ¬ bal s u m v) ∨ (ans = -1004 ∧ ∀ m, ¬ bal s u m v)
theorem WayIs_one {s : Stt} {u v : Nat} {x y : Int32} (hx9 : WayIs s u v x) (hy9 : WayIs s u v y) : x = y := by
  rcases hx9 with ⟨d, -, rfl, h1, h2⟩ | ⟨rfl, h1⟩
  · rcases hy9 with ⟨e, -, rfl, g1, g2⟩ | ⟨-, g1⟩
    · have : d = e := by
        rcases Nat.lt_trichotomy d e with q | q | q
        · exact absurd h1 (g2 d q)
        · exact q
        · exact absurd g1 (h2 e q)
      rw [this]
    · exact absurd h1 (g1 d)
  · rcases hy9 with ⟨e, -, rfl, g1, g2⟩ | ⟨rfl, g1⟩
    · exact absurd g1 (h1 e)
    · rfl
theorem tk_e1 : allF (fun f => allN (ns f) (fun k => Nat.blt (jl f k) (dg f (lo f k)) && (Nat.beq (lh f (lo f k * 6 + jl f k)) (hi f k) && (Nat.beq (lk f (lo f k * 6 + jl f k)) k && (Nat.blt (jh f k) (dg f (hi f k)) && (Nat.beq (lh f (hi f k * 6 + jh f k)) (lo f k) && Nat.beq (lk f (hi f k * 6 + jh f k)) k)))))) = true := by decide +kernel
theorem tk_e2 : allF (fun f => allN (nh f) (fun a => allN (dg f a) (fun j => (Nat.beq (lo f (lk f (a * 6 + j))) a && Nat.beq (hi f (lk f (a * 6 + j))) (lh f (a * 6 + j))) || (Nat.beq (hi f (lk f (a * 6 + j))) a && Nat.beq (lo f (lk f (a * 6 + j))) (lh f (a * 6 + j)))))) = true := by decide +kernel
theorem Ed_link {s : Stt} {a b : Nat} (h1 : 1 ≤ sF s) (h6 : sF s ≤ 6) (h : Ed s a b) : ∃ j, j < dg (sF s) a ∧ opn s (lk (sF s) (a * 6 + j)) = true ∧ lh (sF s) (a * 6 + j) = b := by
  obtain ⟨k, hk, ho, hc⟩ := h
  have h2 := allN_of (allF_of tk_e1 h1 h6) hk
  simp only [Bool.and_eq_true, Nat.blt_eq, Nat.beq_eq] at h2
  obtain ⟨x1, x2, x3, x4, x5, x6⟩ := h2
  rcases hc with ⟨rfl, rfl⟩ | ⟨rfl, rfl⟩
  · exact ⟨_, x1, by rw [x3]; exact ho, x2⟩
  · exact ⟨_, x4, by rw [x6]; exact ho, x5⟩
theorem link_Ed {s : Stt} {a j : Nat} (h1 : 1 ≤ sF s) (h6 : sF s ≤ 6) (ha : a < nh (sF s)) (hj : j < dg (sF s) a) (ho : opn s (lk (sF s) (a * 6 + j)) = true) : Ed s a (lh (sF s) (a * 6 + j)) := by
  have h2 := allN_of (allN_of (allF_of tk_e2 h1 h6) ha) hj
  simp only [Bool.and_eq_true, Bool.or_eq_true, Nat.beq_eq] at h2
  exact ⟨_, ((bd_a h1 h6 ha).2 j hj).2, ho, h2⟩
/-- what holds while the walk goes on: r hubs are reached, i of them done, j links of the next one -/
def WI (s : Stt) (u : Nat) (A : Mem) (i j r : Nat) (qf df : Nat → Nat) : Prop :=
  A 37 2 = nI r ∧ r = cnt (fun b => !decide (A 38 b = -1)) (nh (sF s)) ∧ i ≤ r ∧
  (∀ p, p < r → qf p < nh (sF s) ∧ A 39 p = nI (qf p) ∧ df (qf p) ≤ p) ∧
  (∀ b, b < nh (sF s) → ¬ A 38 b = -1 → A 38 b = nI (df b) ∧ bal s u (df b) b ∧ ∃ p, p < r ∧ qf p = b) ∧
  (∀ p, p < r → ¬ A 38 (qf p) = -1) ∧
  (∀ p p2, p ≤ p2 → p2 < r → df (qf p) ≤ df (qf p2)) ∧
  (∀ p, p < r → i < r → df (qf p) ≤ df (qf i) + 1) ∧
  (∀ p b, p < i → b < nh (sF s) → Ed s (qf p) b → ¬ A 38 b = -1 ∧ df b ≤ df (qf p) + 1) ∧
  (∀ m, m < j → i < r → opn s (lk (sF s) (qf i * 6 + m)) = true → ¬ A 38 (lh (sF s) (qf i * 6 + m)) = -1 ∧ df (lh (sF s) (qf i * 6 + m)) ≤ df (qf i) + 1) ∧
  (¬ A 38 u = -1 ∧ df u = 0)
theorem cnt_set {p q : Nat → Bool} {n b : Nat} (hb9 : b < n) (hp : p b = false) (hq : q b = true) (ho : ∀ i, i < n → ¬ i = b → p i = q i) : cnt q n = cnt p n + 1 := by
  induction n with
  | zero => omega
  | succ n ih =>
    by_cases e : b = n
    · subst e
      rw [cnt_t hq, cnt_f hp, cnt_congr (fun i hi9 => ho i (by omega) (by omega))]
    · have h1 := ih (by omega) (fun i hi9 => ho i (by omega))
      simp only [cnt]
      rw [h1, ho n (by omega) (fun q => e q.symm)]
      omega
theorem WI_new {s : Stt} {u : Nat} {A : Mem} {i j r b : Nat} {qf df qf2 df2 : Nat → Nat} (h1 : 1 ≤ sF s) (h6 : sF s ≤ 6) (h : WI s u A i j r qf df) (hi9 : i < r) (hj : j < dg (sF s) (qf i)) (ho : opn s (lk (sF s) (qf i * 6 + j)) = true) (hbe : lh (sF s) (qf i * 6 + j) = b) (hn : A 38 b = -1)
    (q2r : qf2 r = b) (q2o : ∀ p, ¬ p = r → qf2 p = qf p) (d2b : df2 b = df (qf i) + 1) (d2o : ∀ c, ¬ c = b → df2 c = df c) :
    WI s u (mset (mset (mset A 38 b (nI (df (qf i) + 1))) 39 r (nI b)) 37 2 (nI (r + 1))) i (j + 1) (r + 1) qf2 df2 ∧ r < nh (sF s) := by
  obtain ⟨g1, g2, g3, g4, g5, g6, g7, g8, g9, g10, g11⟩ := h
  have hq := g4 i hi9
  have hb := ((bd_a h1 h6 hq.1).2 j hj).1
  have hE := link_Ed h1 h6 hq.1 hj ho
  rw [hbe] at hb hE
  have hbi : ¬ qf i = b := fun q => g6 i hi9 (by rw [q]; exact hn)
  have hqb : ∀ p, p < r → ¬ qf p = b := fun p hp q => g6 p hp (by rw [q]; exact hn)
  have q2 : ∀ p, p < r → qf2 p = qf p := fun p hp => q2o p (by omega)
  have d2 : ∀ p, p < r → df2 (qf2 p) = df (qf p) := fun p hp => by rw [q2 p hp, d2o _ (hqb p hp)]
  have r38 : ∀ c, (mset (mset (mset A 38 b (nI (df (qf i) + 1))) 39 r (nI b)) 37 2 (nI (r + 1))) 38 c = if c = b then nI (df (qf i) + 1) else A 38 c := fun c => by simp [mset_get]
  have r39 : ∀ c, (mset (mset (mset A 38 b (nI (df (qf i) + 1))) 39 r (nI b)) 37 2 (nI (r + 1))) 39 c = if c = r then nI b else A 39 c := fun c => by simp [mset_get]
  have r37 : (mset (mset (mset A 38 b (nI (df (qf i) + 1))) 39 r (nI b)) 37 2 (nI (r + 1))) 37 2 = nI (r + 1) := by simp [mset_get]
  generalize (mset (mset (mset A 38 b (nI (df (qf i) + 1))) 39 r (nI b)) 37 2 (nI (r + 1))) = A2 at r37 r38 r39 ⊢
  have hdi : df (qf i) ≤ i := hq.2.2
  have hcl := cnt_le (fun b => !decide (A 38 b = -1)) (nh (sF s))
  have hbd := bd_n h1 h6
  have hnew : ∀ c, ¬ A 38 c = -1 ∨ c = b → ¬ A2 38 c = -1 := by
    intro c hc
    rw [r38]
    by_cases e : c = b
    · rw [if_pos e]
      intro q
      have := nI_pos (n := df (qf i) + 1) (by omega)
      rw [q] at this
      exact this (by decide)
    · rw [if_neg e]
      rcases hc with hc | hc
      · exact hc
      · exact absurd hc e
  have hcnt : cnt (fun c => !decide (A2 38 c = -1)) (nh (sF s)) = r + 1 := by
    rw [g2]
    refine cnt_set hb (by simp [hn]) (by simpa using hnew b (Or.inr rfl)) (fun c _ hc => ?_)
    simp only [r38, if_neg hc]
  have hrlt : r < nh (sF s) := by
    have := cnt_le (fun c => !decide (A2 38 c = -1)) (nh (sF s))
    omega
  refine ⟨⟨r37, hcnt.symm, by omega, ?_, ?_, ?_, ?_, ?_, ?_, ?_, ?_⟩, hrlt⟩
  · intro p hp
    by_cases e : p = r
    · rw [e, q2r, r39, if_pos rfl, d2b]
      exact ⟨hb, rfl, by omega⟩
    · obtain ⟨a1, a2, a3⟩ := g4 p (by omega)
      rw [r39, if_neg e, d2 p (by omega), q2 p (by omega)]
      exact ⟨a1, a2, a3⟩
  · intro c hc hcn
    rw [r38] at hcn ⊢
    by_cases e : c = b
    · rw [e, if_pos rfl, d2b]
      exact ⟨rfl, Or.inr ⟨qf i, hq.1, (g5 (qf i) hq.1 (g6 i hi9)).2.1, hE⟩, r, by omega, q2r⟩
    · rw [if_neg e] at hcn
      rw [if_neg e, d2o c e]
      obtain ⟨a1, a2, p, a3, a4⟩ := g5 c hc hcn
      exact ⟨a1, a2, p, by omega, by rw [q2 p a3]; exact a4⟩
  · intro p hp
    by_cases e : p = r
    · rw [e, q2r]
      exact hnew _ (Or.inr rfl)
    · rw [q2o p e]
      exact hnew _ (Or.inl (g6 p (by omega)))
  · intro p p2 hpp hp2
    by_cases e2 : p2 = r
    · rw [e2, q2r, d2b]
      by_cases e : p = r
      · rw [e, q2r, d2b]; omega
      · rw [d2 p (by omega)]
        exact g8 p (by omega) hi9
    · rw [d2 p (by omega), d2 p2 (by omega)]
      exact g7 p p2 hpp (by omega)
  · intro p hp _
    rw [d2 i hi9]
    by_cases e : p = r
    · rw [e, q2r, d2b]; omega
    · rw [d2 p (by omega)]
      exact g8 p (by omega) hi9
  · intro p c hp hc hE2
    rw [d2 p (by omega)]
    rw [q2 p (by omega)] at hE2
    obtain ⟨a1, a2⟩ := g9 p c hp hc hE2
    refine ⟨hnew _ (Or.inl a1), ?_⟩
    rw [d2o c (fun q => a1 (by rw [q]; exact hn))]
    exact a2
  · intro m hm _ hom
    rw [d2 i hi9, q2 i hi9]
    rw [q2 i hi9] at hom
    by_cases e : m = j
    · rw [e, hbe]
      exact ⟨hnew _ (Or.inr rfl), by rw [d2b]; omega⟩
    · obtain ⟨a1, a2⟩ := g10 m (by omega) hi9 hom
      refine ⟨hnew _ (Or.inl a1), ?_⟩
      rw [d2o _ (fun q => a1 (by rw [q]; exact hn))]
      exact a2
  · refine ⟨hnew _ (Or.inl g11.1), ?_⟩
    rw [d2o u (fun q => g11.1 (by rw [q]; exact hn))]
    exact g11.2
theorem WI_old {s : Stt} {u : Nat} {A : Mem} {i j r : Nat} {qf df : Nat → Nat} (h : WI s u A i j r qf df) (hj : i < r → opn s (lk (sF s) (qf i * 6 + j)) = true → ¬ A 38 (lh (sF s) (qf i * 6 + j)) = -1 ∧ df (lh (sF s) (qf i * 6 + j)) ≤ df (qf i) + 1) : WI s u A i (j + 1) r qf df := by
  obtain ⟨g1, g2, g3, g4, g5, g6, g7, g8, g9, g10, g11⟩ := h
  refine ⟨g1, g2, g3, g4, g5, g6, g7, g8, g9, fun m hm hi9 ho => ?_, g11⟩
  by_cases e : m = j
  · subst e; exact hj hi9 ho
  · exact g10 m (by omega) hi9 ho
theorem WI_next {s : Stt} {u : Nat} {A : Mem} {i r : Nat} {qf df : Nat → Nat} (h1 : 1 ≤ sF s) (h6 : sF s ≤ 6) (hi9 : i < r) (h : WI s u A i (dg (sF s) (qf i)) r qf df) : WI s u A (i + 1) 0 r qf df := by
  obtain ⟨g1, g2, g3, g4, g5, g6, g7, g8, g9, g10, g11⟩ := h
  refine ⟨g1, g2, by omega, g4, g5, g6, g7, fun p hp hi8 => ?_, fun p b hp hb hE => ?_, fun m hm => by omega, g11⟩
  · have a1 := g8 p hp hi9
    have a2 := g7 i (i + 1) (by omega) hi8
    omega
  · by_cases e : p = i
    · subst e
      obtain ⟨j, hj, ho, hl9⟩ := Ed_link h1 h6 hE
      have := g10 j hj hi9 ho
      rw [hl9] at this
      exact this
    · exact g9 p b (by omega) hb hE
theorem WI_end {s : Stt} {u v : Nat} {A : Mem} {r : Nat} {qf df : Nat → Nat} (hbd : nh (sF s) ≤ 146) (hu : u < nh (sF s)) (hv : v < nh (sF s)) (h : WI s u A r 0 r qf df) : WayIs s u v (if A 38 v = -1 then -1004 else A 38 v) := by
  obtain ⟨g1, g2, g3, g4, g5, g6, g7, g8, g9, g10, g11⟩ := h
  have key : ∀ n b, b < nh (sF s) → bal s u n b → ¬ A 38 b = -1 ∧ df b ≤ n := by
    intro n
    induction n with
    | zero =>
      intro b hb h
      cases h
      exact ⟨g11.1, by rw [g11.2]; exact Nat.le_refl 0⟩
    | succ n ih =>
      intro b hb h
      rcases h with h | ⟨a, ha, h1, hE⟩
      · obtain ⟨a1, a2⟩ := ih b hb h
        exact ⟨a1, by omega⟩
      · obtain ⟨a1, a2⟩ := ih a ha h1
        obtain ⟨-, -, p, hp, hpa⟩ := g5 a ha a1
        rw [← hpa] at hE a2
        obtain ⟨b1, b2⟩ := g9 p b hp hb hE
        exact ⟨b1, by omega⟩
  by_cases e : A 38 v = -1
  · rw [if_pos e]
    exact Or.inr ⟨rfl, fun m hm => (key m v hv hm).1 e⟩
  · rw [if_neg e]
    obtain ⟨a1, a2, p, hp, hpv⟩ := g5 v hv e
    have hr : r ≤ nh (sF s) := by rw [g2]; exact cnt_le _ _
    have := (g4 p hp).2.2
    rw [hpv] at this
    exact Or.inl ⟨df v, by omega, a1, a2, fun m hm hb => by have := (key m v hv hb).2; omega⟩