/-! the walk: fewest struts between two hubs -/
def opn (s : Stt) (k : Nat) : Bool := ks s k && !sM s k
/-- a strut that is kept and there joins a and b -/
def Ed (s : Stt) (a b : Nat) : Prop := ∃ k, k < ns (sF s) ∧ opn s k = true ∧ ((lo (sF s) k = a ∧ hi (sF s) k = b) ∨ (hi (sF s) k = a ∧ lo (sF s) k = b))
/-- b lies within n struts of u -/
def bal (s : Stt) (u : Nat) : Nat → Nat → Prop
  | 0, b => b = u
  | n + 1, b => bal s u n b ∨ ∃ a, a < nh (sF s) ∧ bal s u n a ∧ Ed s a b
def WayIs (s : Stt) (u v : Nat) (ans : Int32) : Prop := (∃ d, d < 146 ∧ ans = nI d ∧ bal s u d v ∧ ∀ m, m < d → ¬ bal s u m v) ∨ (ans = -1004 ∧ ∀ m, ¬ bal s u m v)
theorem WayIs_one {s : Stt} {u v : Nat} {x y : Int32} (hx9 : WayIs s u v x) (hy9 : WayIs s u v y) : x = y := by
  rcases hx9 with ⟨d, -, rfl, h1, h2⟩ | ⟨rfl, h1⟩
  · rcases hy9 with ⟨e, -, rfl, g1, g2⟩ | ⟨-, g1⟩
    · have : d = e := by
        rcases Nat.lt_trichotomy d e with q | q | q
        · exact absurd h1 (g2 d q)
        · exact q
        · exact absurd g1 (h2 e q)
      rw [this]
    · exact absurd h1 (g1 d)
  · rcases hy9 with ⟨e, -, rfl, g1, g2⟩ | ⟨rfl, g1⟩
    · exact absurd g1 (h1 e)
    · rfl
theorem tk_e1 : allF (fun f => allN (ns f) (fun k => Nat.blt (jl f k) (dg f (lo f k)) && (Nat.beq (lh f (lo f k * 6 + jl f k)) (hi f k) && (Nat.beq (lk f (lo f k * 6 + jl f k)) k && (Nat.blt (jh f k) (dg f (hi f k)) && (Nat.beq (lh f (hi f k * 6 + jh f k)) (lo f k) && Nat.beq (lk f (hi f k * 6 + jh f k)) k)))))) = true := by decide +kernel
theorem tk_e2 : allF (fun f => allN (nh f) (fun a => allN (dg f a) (fun j => (Nat.beq (lo f (lk f (a * 6 + j))) a && Nat.beq (hi f (lk f (a * 6 + j))) (lh f (a * 6 + j))) || (Nat.beq (hi f (lk f (a * 6 + j))) a && Nat.beq (lo f (lk f (a * 6 + j))) (lh f (a * 6 + j)))))) = true := by decide +kernel
theorem Ed_link {s : Stt} {a b : Nat} (h1 : 1 ≤ sF s) (h6 : sF s ≤ 6) (h : Ed s a b) : ∃ j, j < dg (sF s) a ∧ opn s (lk (sF s) (a * 6 + j)) = true ∧ lh (sF s) (a * 6 + j) = b := by
  obtain ⟨k, hk, ho, hc⟩ := h
  have h2 := allN_of (allF_of tk_e1 h1 h6) hk
  simp only [Bool.and_eq_true, Nat.blt_eq, Nat.beq_eq] at h2
  obtain ⟨x1, x2, x3, x4, x5, x6⟩ := h2
  rcases hc with ⟨rfl, rfl⟩ | ⟨rfl, rfl⟩
  · exact ⟨_, x1, by rw [x3]; exact ho, x2⟩
  · exact ⟨_, x4, by rw [x6]; exact ho, x5⟩
theorem link_Ed {s : Stt} {a j : Nat} (h1 : 1 ≤ sF s) (h6 : sF s ≤ 6) (ha : a < nh (sF s)) (hj : j < dg (sF s) a) (ho : opn s (lk (sF s) (a * 6 + j)) = true) : Ed s a (lh (sF s) (a * 6 + j)) := by
  have h2 := allN_of (allN_of (allF_of tk_e2 h1 h6) ha) hj
  simp only [Bool.and_eq_true, Bool.or_eq_true, Nat.beq_eq] at h2
  exact ⟨_, ((bd_a h1 h6 ha).2 j hj).2, ho, h2⟩
theorem sp_57 {A : Mem} {Q : Int32 → Mem → Prop} {b r : Nat} {d : Int32} (hb9 : b < 146) (hr : A 37 2 = nI r) (hrb : r < 2 ^ 31) (hfree : A 38 b = -1 → r < 146) (h1 : ¬ A 38 b = -1 → Q 0 A) (h2 : A 38 b = -1 → Q 0 (mset (mset (mset A 38 b d) 39 r (nI b)) 37 2 (nI (r + 1)))) : pm_P 57 0 [(0, .ref 37), (1, .int (nI b)), (2, .int d)] [] A Q := by
  refine pm_aload_n (i := 0) d57_0 rfl rfl ?_
  refine pm_getR d57_1 lf_9_9 rfl rfl ?_
  refine pm_iload_n (i := 1) d57_4 rfl rfl ?_
  refine pm_ialdN d57_5 rfl (by decide) (by omega) ?_
  refine pm_iconst (v := -1) d57_6 (by decide) ?_
  first | refine pm_icmp_neN (tgt := 20) d57_7 rfl (by omega) (by omega) (fun c_7 => ?_) (fun c_7 => ?_) | refine pm_icmp_ne (tgt := 20) d57_7 rfl (fun c_7 => ?_) (fun c_7 => ?_)
  · refine pm_vret d57_20 rfl (h1 c_7)
  · have hr6 := hfree (by have := c_7; simpa using this)
    have c7 : A 38 b = -1 := by have := c_7; simpa using this
    refine pm_aload_n (i := 0) d57_10 rfl rfl ?_
    refine pm_getE (v := nI r) d57_11 lf_9_24 rfl rfl (by simp [mset_get, hr]) ?_
    refine pm_sipush (v := nI 146) d57_14 (by decide) ?_
    first | refine pm_icmp_ltN (tgt := 21) d57_17 rfl (by omega) (by omega) (fun c_17 => ?_) (fun c_17 => ?_) | refine pm_icmp_lt (tgt := 21) d57_17 rfl (fun c_17 => ?_) (fun c_17 => ?_)
    · refine pm_aload_n (i := 0) d57_21 rfl rfl ?_
      refine pm_getR d57_22 lf_9_9 rfl rfl ?_
      refine pm_iload_n (i := 1) d57_25 rfl rfl ?_
      refine pm_iload_n (i := 2) d57_26 rfl rfl ?_
      refine pm_iastN d57_27 rfl (by decide) (by omega) ?_
      refine pm_aload_n (i := 0) d57_28 rfl rfl ?_
      refine pm_getR d57_29 lf_9_15 rfl rfl ?_
      refine pm_aload_n (i := 0) d57_32 rfl rfl ?_
      refine pm_getE (v := nI r) d57_33 lf_9_24 rfl rfl (by simp [mset_get, hr]) ?_
      refine pm_iload_n (i := 1) d57_36 rfl rfl ?_
      refine pm_iastN d57_37 rfl (by decide) (by omega) ?_
      refine pm_aload_n (i := 0) d57_38 rfl rfl ?_
      refine pm_dup d57_39 rfl ?_
      refine pm_getE (v := nI r) d57_40 lf_9_24 rfl rfl (by simp [mset_get, hr]) ?_
      refine pm_iconst (v := nI 1) d57_43 (by decide) ?_
      first | refine pm_iaddN d57_44 ?_ | refine pm_iadd d57_44 ?_
      refine pm_putI d57_45 lp_9_24 rfl rfl ?_
      refine pm_vret d57_48 rfl ?_
      exact h2 c7
    · omega
/-- what holds while the walk goes on: r hubs are reached, i of them done, j links of the next one -/
def WI (s : Stt) (u : Nat) (A : Mem) (i j r : Nat) (qf df : Nat → Nat) : Prop :=
  A 37 2 = nI r ∧ r = cnt (fun b => !decide (A 38 b = -1)) (nh (sF s)) ∧ i ≤ r ∧
  (∀ p, p < r → qf p < nh (sF s) ∧ A 39 p = nI (qf p) ∧ df (qf p) ≤ p) ∧
  (∀ b, b < nh (sF s) → ¬ A 38 b = -1 → A 38 b = nI (df b) ∧ bal s u (df b) b ∧ ∃ p, p < r ∧ qf p = b) ∧
  (∀ p, p < r → ¬ A 38 (qf p) = -1) ∧
  (∀ p p2, p ≤ p2 → p2 < r → df (qf p) ≤ df (qf p2)) ∧
  (∀ p, p < r → i < r → df (qf p) ≤ df (qf i) + 1) ∧
  (∀ p b, p < i → b < nh (sF s) → Ed s (qf p) b → ¬ A 38 b = -1 ∧ df b ≤ df (qf p) + 1) ∧
  (∀ m, m < j → i < r → opn s (lk (sF s) (qf i * 6 + m)) = true → ¬ A 38 (lh (sF s) (qf i * 6 + m)) = -1 ∧ df (lh (sF s) (qf i * 6 + m)) ≤ df (qf i) + 1) ∧
  (¬ A 38 u = -1 ∧ df u = 0)
theorem cnt_set {p q : Nat → Bool} {n b : Nat} (hb9 : b < n) (hp : p b = false) (hq : q b = true) (ho : ∀ i, i < n → ¬ i = b → p i = q i) : cnt q n = cnt p n + 1 := by
  induction n with
  | zero => omega
  | succ n ih =>
    by_cases e : b = n
    · subst e
      rw [cnt_t hq, cnt_f hp, cnt_congr (fun i hi9 => ho i (by omega) (by omega))]
    · have h1 := ih (by omega) (fun i hi9 => ho i (by omega))
      simp only [cnt]
      rw [h1, ho n (by omega) (fun q => e q.symm)]
      omega
theorem WI_new {s : Stt} {u : Nat} {A : Mem} {i j r b : Nat} {qf df qf2 df2 : Nat → Nat} (h1 : 1 ≤ sF s) (h6 : sF s ≤ 6) (h : WI s u A i j r qf df) (hi9 : i < r) (hj : j < dg (sF s) (qf i)) (ho : opn s (lk (sF s) (qf i * 6 + j)) = true) (hbe : lh (sF s) (qf i * 6 + j) = b) (hn : A 38 b = -1)
    (q2r : qf2 r = b) (q2o : ∀ p, ¬ p = r → qf2 p = qf p) (d2b : df2 b = df (qf i) + 1) (d2o : ∀ c, ¬ c = b → df2 c = df c) :
    WI s u (mset (mset (mset A 38 b (nI (df (qf i) + 1))) 39 r (nI b)) 37 2 (nI (r + 1))) i (j + 1) (r + 1) qf2 df2 ∧ r < nh (sF s) := by
  obtain ⟨g1, g2, g3, g4, g5, g6, g7, g8, g9, g10, g11⟩ := h
  have hq := g4 i hi9
  have hb := ((bd_a h1 h6 hq.1).2 j hj).1
  have hE := link_Ed h1 h6 hq.1 hj ho
  rw [hbe] at hb hE
  have hbi : ¬ qf i = b := fun q => g6 i hi9 (by rw [q]; exact hn)
  have hqb : ∀ p, p < r → ¬ qf p = b := fun p hp q => g6 p hp (by rw [q]; exact hn)
  have q2 : ∀ p, p < r → qf2 p = qf p := fun p hp => q2o p (by omega)
  have d2 : ∀ p, p < r → df2 (qf2 p) = df (qf p) := fun p hp => by rw [q2 p hp, d2o _ (hqb p hp)]
  have r38 : ∀ c, (mset (mset (mset A 38 b (nI (df (qf i) + 1))) 39 r (nI b)) 37 2 (nI (r + 1))) 38 c = if c = b then nI (df (qf i) + 1) else A 38 c := fun c => by simp [mset_get]
  have r39 : ∀ c, (mset (mset (mset A 38 b (nI (df (qf i) + 1))) 39 r (nI b)) 37 2 (nI (r + 1))) 39 c = if c = r then nI b else A 39 c := fun c => by simp [mset_get]
  have r37 : (mset (mset (mset A 38 b (nI (df (qf i) + 1))) 39 r (nI b)) 37 2 (nI (r + 1))) 37 2 = nI (r + 1) := by simp [mset_get]
  generalize (mset (mset (mset A 38 b (nI (df (qf i) + 1))) 39 r (nI b)) 37 2 (nI (r + 1))) = A2 at r37 r38 r39 ⊢
  have hdi : df (qf i) ≤ i := hq.2.2
  have hcl := cnt_le (fun b => !decide (A 38 b = -1)) (nh (sF s))
  have hbd := bd_n h1 h6
  have hnew : ∀ c, ¬ A 38 c = -1 ∨ c = b → ¬ A2 38 c = -1 := by
    intro c hc
    rw [r38]
    by_cases e : c = b
    · rw [if_pos e]
      intro q
      have := nI_pos (n := df (qf i) + 1) (by omega)
      rw [q] at this
      exact this (by decide)
    · rw [if_neg e]
      rcases hc with hc | hc
      · exact hc
      · exact absurd hc e
  have hcnt : cnt (fun c => !decide (A2 38 c = -1)) (nh (sF s)) = r + 1 := by
    rw [g2]
    refine cnt_set hb (by simp [hn]) (by simpa using hnew b (Or.inr rfl)) (fun c _ hc => ?_)
    simp only [r38, if_neg hc]
  have hrlt : r < nh (sF s) := by
    have := cnt_le (fun c => !decide (A2 38 c = -1)) (nh (sF s))
    omega
  refine ⟨⟨r37, hcnt.symm, by omega, ?_, ?_, ?_, ?_, ?_, ?_, ?_, ?_⟩, hrlt⟩
  · intro p hp
    by_cases e : p = r
    · rw [e, q2r, r39, if_pos rfl, d2b]
      exact ⟨hb, rfl, by omega⟩
    · obtain ⟨a1, a2, a3⟩ := g4 p (by omega)
      rw [r39, if_neg e, d2 p (by omega), q2 p (by omega)]
      exact ⟨a1, a2, a3⟩
  · intro c hc hcn
    rw [r38] at hcn ⊢
    by_cases e : c = b
    · rw [e, if_pos rfl, d2b]
      exact ⟨rfl, Or.inr ⟨qf i, hq.1, (g5 (qf i) hq.1 (g6 i hi9)).2.1, hE⟩, r, by omega, q2r⟩
    · rw [if_neg e] at hcn
      rw [if_neg e, d2o c e]
      obtain ⟨a1, a2, p, a3, a4⟩ := g5 c hc hcn
      exact ⟨a1, a2, p, by omega, by rw [q2 p a3]; exact a4⟩
  · intro p hp
    by_cases e : p = r
    · rw [e, q2r]
      exact hnew _ (Or.inr rfl)
    · rw [q2o p e]
      exact hnew _ (Or.inl (g6 p (by omega)))
  · intro p p2 hpp hp2
    by_cases e2 : p2 = r
    · rw [e2, q2r, d2b]
      by_cases e : p = r
      · rw [e, q2r, d2b]; omega
      · rw [d2 p (by omega)]
        exact g8 p (by omega) hi9
    · rw [d2 p (by omega), d2 p2 (by omega)]
      exact g7 p p2 hpp (by omega)
  · intro p hp _
    rw [d2 i hi9]
    by_cases e : p = r
    · rw [e, q2r, d2b]; omega
    · rw [d2 p (by omega)]
      exact g8 p (by omega) hi9
  · intro p c hp hc hE2
    rw [d2 p (by omega)]
    rw [q2 p (by omega)] at hE2
    obtain ⟨a1, a2⟩ := g9 p c hp hc hE2
    refine ⟨hnew _ (Or.inl a1), ?_⟩
    rw [d2o c (fun q => a1 (by rw [q]; exact hn))]
    exact a2
  · intro m hm _ hom
    rw [d2 i hi9, q2 i hi9]
    rw [q2 i hi9] at hom
    by_cases e : m = j
    · rw [e, hbe]
      exact ⟨hnew _ (Or.inr rfl), by rw [d2b]; omega⟩
    · obtain ⟨a1, a2⟩ := g10 m (by omega) hi9 hom
      refine ⟨hnew _ (Or.inl a1), ?_⟩
      rw [d2o _ (fun q => a1 (by rw [q]; exact hn))]
      exact a2
  · refine ⟨hnew _ (Or.inl g11.1), ?_⟩
    rw [d2o u (fun q => g11.1 (by rw [q]; exact hn))]
    exact g11.2
theorem WI_old {s : Stt} {u : Nat} {A : Mem} {i j r : Nat} {qf df : Nat → Nat} (h : WI s u A i j r qf df) (hj : i < r → opn s (lk (sF s) (qf i * 6 + j)) = true → ¬ A 38 (lh (sF s) (qf i * 6 + j)) = -1 ∧ df (lh (sF s) (qf i * 6 + j)) ≤ df (qf i) + 1) : WI s u A i (j + 1) r qf df := by
  obtain ⟨g1, g2, g3, g4, g5, g6, g7, g8, g9, g10, g11⟩ := h
  refine ⟨g1, g2, g3, g4, g5, g6, g7, g8, g9, fun m hm hi9 ho => ?_, g11⟩
  by_cases e : m = j
  · subst e; exact hj hi9 ho
  · exact g10 m (by omega) hi9 ho
theorem WI_next {s : Stt} {u : Nat} {A : Mem} {i r : Nat} {qf df : Nat → Nat} (h1 : 1 ≤ sF s) (h6 : sF s ≤ 6) (hi9 : i < r) (h : WI s u A i (dg (sF s) (qf i)) r qf df) : WI s u A (i + 1) 0 r qf df := by
  obtain ⟨g1, g2, g3, g4, g5, g6, g7, g8, g9, g10, g11⟩ := h
  refine ⟨g1, g2, by omega, g4, g5, g6, g7, fun p hp hi8 => ?_, fun p b hp hb hE => ?_, fun m hm => by omega, g11⟩
  · have a1 := g8 p hp hi9
    have a2 := g7 i (i + 1) (by omega) hi8
    omega
  · by_cases e : p = i
    · subst e
      obtain ⟨j, hj, ho, hl9⟩ := Ed_link h1 h6 hE
      have := g10 j hj hi9 ho
      rw [hl9] at this
      exact this
    · exact g9 p b (by omega) hb hE
theorem WI_end {s : Stt} {u v : Nat} {A : Mem} {r : Nat} {qf df : Nat → Nat} (hbd : nh (sF s) ≤ 146) (hu : u < nh (sF s)) (hv : v < nh (sF s)) (h : WI s u A r 0 r qf df) : WayIs s u v (if A 38 v = -1 then -1004 else A 38 v) := by
  obtain ⟨g1, g2, g3, g4, g5, g6, g7, g8, g9, g10, g11⟩ := h
  have key : ∀ n b, b < nh (sF s) → bal s u n b → ¬ A 38 b = -1 ∧ df b ≤ n := by
    intro n
    induction n with
    | zero =>
      intro b hb h
      cases h
      exact ⟨g11.1, by rw [g11.2]; exact Nat.le_refl 0⟩
    | succ n ih =>
      intro b hb h
      rcases h with h | ⟨a, ha, h1, hE⟩
      · obtain ⟨a1, a2⟩ := ih b hb h
        exact ⟨a1, by omega⟩
      · obtain ⟨a1, a2⟩ := ih a ha h1
        obtain ⟨-, -, p, hp, hpa⟩ := g5 a ha a1
        rw [← hpa] at hE a2
        obtain ⟨b1, b2⟩ := g9 p b hp hb hE
        exact ⟨b1, by omega⟩
  by_cases e : A 38 v = -1
  · rw [if_pos e]
    exact Or.inr ⟨rfl, fun m hm => (key m v hv hm).1 e⟩
  · rw [if_neg e]
    obtain ⟨a1, a2, p, hp, hpv⟩ := g5 v hv e
    have hr : r ≤ nh (sF s) := by rw [g2]; exact cnt_le _ _
    have := (g4 p hp).2.2
    rw [hpv] at this
    exact Or.inl ⟨df v, by omega, a1, a2, fun m hm hb => by have := (key m v hv hb).2; omega⟩
theorem sp_56 {A : Mem} {Q : Int32 → Mem → Prop} {b : Nat} (hb9 : b < 146) (h : ∀ A2 : Mem, (∀ c, c ≠ 37 → c ≠ 38 → c ≠ 39 → A2 c = A c) → A2 37 2 = nI 1 → A2 38 b = nI 0 → (∀ c, c < 146 → c ≠ b → A2 38 c = -1) → A2 39 0 = nI b → Q 0 A2) : pm_P 56 0 [(0, .ref 37), (1, .int (nI b))] [] A Q := by
  refine pm_aload_n (i := 0) d56_0 rfl rfl ?_
  refine pm_getR d56_1 lf_9_9 rfl rfl ?_
  refine pm_iconst (v := -1) d56_4 (by decide) ?_
  refine pm_callSv (k2 := 184) (As := [_, _]) d56_5 lk_9_18 ok_184 rfl rfl rfl (Nat.le_of_ble_eq_true rfl) rfl rfl ⟨Nat.le_of_ble_eq_true rfl, Nat.le_of_ble_eq_true rfl⟩ (Nat.le_of_ble_eq_true rfl) ?_
  refine sp_184 rfl (by decide) (fun A1 g1 g2 => ?_)
  refine pm_aload_n (i := 0) d56_8 rfl rfl ?_
  refine pm_iconst (v := nI 0) d56_9 (by decide) ?_
  refine pm_putI d56_10 lp_9_24 rfl rfl ?_
  refine pm_aload_n (i := 0) d56_13 rfl rfl ?_
  refine pm_iload_n (i := 1) d56_14 rfl rfl ?_
  refine pm_iconst (v := nI 0) d56_15 (by decide) ?_
  refine pm_callVv (k2 := 57) (As := [_, _]) d56_16 lk_9_28 ok_57 rfl rfl rfl (Nat.le_of_ble_eq_true rfl) rfl rfl rfl rfl rfl ⟨Nat.le_of_ble_eq_true rfl, Nat.le_of_ble_eq_true rfl⟩ (Nat.le_of_ble_eq_true rfl) ?_
  refine sp_57 (r := 0) hb9 (by simp [mset_get]) (by decide) (fun _ => by decide) (fun q => absurd (by rw [mset_other (by decide)]; exact g2 b hb9) q) (fun _ => ?_)
  refine pm_vret d56_19 rfl ?_
  refine h _ (fun c q1 q2 q3 => ?_) (by simp [mset_get]) (by simp [mset_get]) (fun c hc hcb => ?_) (by simp [mset_get])
  · rw [mset_other q1, mset_other q3, mset_other q2, mset_other q1]
    exact g1 c q2
  · simp only [mset_get]
    simp [hcb, g2 c hc]
theorem sp_106 {s : Stt} {A : Mem} {Q : Int32 → Mem → Prop} {u : Nat} (hI : CI s A) (hu : u < nh (sF s)) (h : ∀ A2 : Mem, (∀ c, c ≠ 37 → c ≠ 38 → c ≠ 39 → A2 c = A c) → (∀ v, v < nh (sF s) → WayIs s u v (if A2 38 v = -1 then -1004 else A2 38 v)) → Q 0 A2) : pm_P 106 0 [(0, .ref 0), (1, .int (nI u))] [] A Q := by
  have hb := CI_bd hI
  have F1 := hI.1.1
  have F6 := hI.1.2.1
  have inner : ∀ i, (∀ A1 r qf df, i < r → (∀ c, c ≠ 37 → c ≠ 38 → c ≠ 39 → A1 c = A c) → WI s u A1 i (dg (sF s) (qf i)) r qf df → pm_P 106 133 [(0, .ref 0), (1, .int (nI u)), (2, .int (nI i))] [] A1 Q) →
      ∀ a, a < nh (sF s) → ∀ j, j ≤ dg (sF s) a → ∀ (A1 : Mem) (r : Nat) (qf df : Nat → Nat), i < r → qf i = a → (∀ c, c ≠ 37 → c ≠ 38 → c ≠ 39 → A1 c = A c) → WI s u A1 i j r qf df → pm_P 106 41 [(0, .ref 0), (1, .int (nI u)), (2, .int (nI i)), (3, .int (nI a)), (4, .int (nI j))] [] A1 Q := by
    intro i hk a ha
    have hd := bd_a F1 F6 ha
    refine up_ind (fun j hj ih A1 r qf df hir hqa hA hW => ?_)
    have hI1 : CI s A1 := CI_keep hI (fun c hc => hA c (by omega) (by omega) (by omega))
    have hdg := CI_dg hI1 ha
    have hrn : r ≤ nh (sF s) := by rw [hW.2.1]; exact cnt_le _ _
    refine pm_iload d106_41 rfl ?_
    refine pm_aload_n (i := 0) d106_43 rfl rfl ?_
    refine pm_getR d106_44 lf_10_19 rfl rfl ?_
    refine pm_getR d106_47 lf_10_169 rfl rfl ?_
    refine pm_iload_n (i := 3) d106_50 rfl rfl ?_
    refine pm_ialdN d106_51 rfl (by decide) (by omega) ?_
    rw [hdg]
    first | refine pm_icmp_geN (tgt := 133) d106_52 rfl (by omega) (by omega) (fun c_52 => ?_) (fun c_52 => ?_) | refine pm_icmp_ge (tgt := 133) d106_52 rfl (fun c_52 => ?_) (fun c_52 => ?_)
    · refine pm_pick [0, 1, 2] (L2 := [(0, _), (1, _), (2, _)]) rfl ?_
      rw [show j = dg (sF s) a by omega] at hW
      rw [← hqa] at hW
      exact hk A1 r qf df hir hA hW
    · have l1 := hd.2 j c_52
      have e10 := CI_lk hI1 ha c_52
      have e9 := CI_lh hI1 ha c_52 
      refine pm_aload_n (i := 0) d106_55 rfl rfl ?_
      refine pm_getR d106_56 lf_10_19 rfl rfl ?_
      refine pm_getR d106_59 lf_10_323 rfl rfl ?_
      refine pm_iload_n (i := 3) d106_62 rfl rfl ?_
      refine pm_bipush (v := nI 6) d106_63 (by decide) ?_
      first | refine pm_imulN d106_65 ?_ | refine pm_imul d106_65 ?_
      refine pm_iload d106_66 rfl ?_
      first | refine pm_iaddN d106_68 ?_ | refine pm_iadd d106_68 ?_
      refine pm_ialdN d106_69 rfl (by decide) (by omega) ?_
      rw [e10]
      refine pm_istore (L2 := [(0, _), (1, _), (2, _), (3, _), (4, _), (5, _)]) d106_70 (by decide) rfl ?_
      refine pm_aload_n (i := 0) d106_72 rfl rfl ?_
      refine pm_iload d106_73 rfl ?_
      refine pm_callV (k2 := 90) (As := [_]) d106_75 lk_10_224 ok_90 rfl rfl rfl (Nat.le_of_ble_eq_true rfl) rfl rfl rfl rfl rfl ⟨Nat.le_of_ble_eq_true rfl, Nat.le_of_ble_eq_true rfl⟩ (Nat.le_of_ble_eq_true rfl) ?_
      refine sp_90 hI1 l1.2 ?_
      first | refine pm_if_eqB (tgt := 127) d106_78 rfl (fun c_78 => ?_) (fun c_78 => ?_) | refine pm_if_eqN (tgt := 127) d106_78 rfl (by omega) (fun c_78 => ?_) (fun c_78 => ?_) | refine pm_if_eq (tgt := 127) d106_78 rfl (fun c_78 => ?_) (fun c_78 => ?_)
      · first | refine pm_iincN 1 (L2 := [(0, _), (1, _), (2, _), (3, _), (4, _), (5, _)]) d106_127 rfl (by decide) rfl ?_ | refine pm_iinc (L2 := [(0, _), (1, _), (2, _), (3, _), (4, _), (5, _)]) d106_127 rfl rfl (by decide) rfl ?_
        refine pm_goto (tgt := 41) d106_130 rfl ?_
        refine pm_pick [0, 1, 2, 3, 4] (L2 := [(0, _), (1, _), (2, _), (3, _), (4, _)]) rfl ?_
        exact ih c_52 A1 r qf df hir hqa hA (WI_old hW (fun _ ho => by rw [hqa] at ho; simp_all [opn]))
      · refine pm_aload_n (i := 0) d106_81 rfl rfl ?_
        refine pm_getR d106_82 lf_10_40 rfl rfl ?_
        refine pm_getR d106_85 lf_10_227 rfl rfl ?_
        refine pm_iload d106_88 rfl ?_
        refine pm_zaldN d106_90 rfl (by decide) (by omega) ?_
        rw [CI_ms hI1 (by omega)]
        first | refine pm_if_neB (tgt := 127) d106_91 rfl (fun c_91 => ?_) (fun c_91 => ?_) | refine pm_if_neN (tgt := 127) d106_91 rfl (by omega) (fun c_91 => ?_) (fun c_91 => ?_) | refine pm_if_ne (tgt := 127) d106_91 rfl (fun c_91 => ?_) (fun c_91 => ?_)
        · first | refine pm_iincN 1 (L2 := [(0, _), (1, _), (2, _), (3, _), (4, _), (5, _)]) d106_127 rfl (by decide) rfl ?_ | refine pm_iinc (L2 := [(0, _), (1, _), (2, _), (3, _), (4, _), (5, _)]) d106_127 rfl rfl (by decide) rfl ?_
          refine pm_goto (tgt := 41) d106_130 rfl ?_
          refine pm_pick [0, 1, 2, 3, 4] (L2 := [(0, _), (1, _), (2, _), (3, _), (4, _)]) rfl ?_
          exact ih c_52 A1 r qf df hir hqa hA (WI_old hW (fun _ ho => by rw [hqa] at ho; simp_all [opn]))
        · refine pm_aload_n (i := 0) d106_94 rfl rfl ?_
          refine pm_getR d106_95 lf_10_54 rfl rfl ?_
          refine pm_aload_n (i := 0) d106_98 rfl rfl ?_
          refine pm_getR d106_99 lf_10_19 rfl rfl ?_
          refine pm_getR d106_102 lf_10_196 rfl rfl ?_
          refine pm_iload_n (i := 3) d106_105 rfl rfl ?_
          refine pm_bipush (v := nI 6) d106_106 (by decide) ?_
          first | refine pm_imulN d106_108 ?_ | refine pm_imul d106_108 ?_
          refine pm_iload d106_109 rfl ?_
          first | refine pm_iaddN d106_111 ?_ | refine pm_iadd d106_111 ?_
          refine pm_ialdN d106_112 rfl (by decide) (by omega) ?_
          rw [e9]
          refine pm_aload_n (i := 0) d106_113 rfl rfl ?_
          refine pm_getR d106_114 lf_10_54 rfl rfl ?_
          refine pm_getR d106_117 lf_10_203 rfl rfl ?_
          refine pm_iload_n (i := 3) d106_120 rfl rfl ?_
          refine pm_ialdN d106_121 rfl (by decide) (by omega) ?_
          rw [(hW.2.2.2.2.1 a ha (by rw [← hqa]; exact hW.2.2.2.2.2.1 i hir)).1]
          refine pm_iconst (v := nI 1) d106_122 (by decide) ?_
          first | refine pm_iaddN d106_123 ?_ | refine pm_iadd d106_123 ?_
          refine pm_callVv (k2 := 57) (As := [_, _]) d106_124 lk_10_341 ok_57 rfl rfl rfl (Nat.le_of_ble_eq_true rfl) rfl rfl rfl rfl rfl ⟨Nat.le_of_ble_eq_true rfl, Nat.le_of_ble_eq_true rfl⟩ (Nat.le_of_ble_eq_true rfl) ?_
          have hrf : A1 38 (lh (sF s) (a * 6 + j)) = -1 → r < 146 := fun hn => by
            have := (WI_new (qf2 := fun p => if p = r then lh (sF s) (qf i * 6 + j) else qf p) (df2 := fun b => if b = lh (sF s) (qf i * 6 + j) then df (qf i) + 1 else df b) F1 F6 hW hir (by rw [hqa]; exact c_52) (by rw [hqa]; simp [opn, c_78, c_91]) rfl (by rw [hqa]; exact hn) (if_pos rfl) (fun p hp => if_neg hp) (if_pos rfl) (fun c hc => if_neg hc)).2
            omega
          refine sp_57 (by omega) hW.1 (by omega) hrf (fun hn => ?_) (fun hn => ?_)
          · refine pm_iincN 1 (L2 := [(0, _), (1, _), (2, _), (3, _), (4, _), (5, _)]) d106_127 rfl (by decide) rfl ?_
            refine pm_goto (tgt := 41) d106_130 rfl ?_
            refine pm_pick [0, 1, 2, 3, 4] (L2 := [(0, _), (1, _), (2, _), (3, _), (4, _)]) rfl ?_
            refine ih c_52 A1 r qf df hir hqa hA (WI_old hW (fun _ _ => ?_))
            rw [hqa]
            obtain ⟨-, -, p, hp, hpa⟩ := hW.2.2.2.2.1 _ l1.1 hn
            have h8 := hW.2.2.2.2.2.2.2.1 p hp hir
            rw [hpa, hqa] at h8
            exact ⟨hn, h8⟩
          · refine pm_iincN 1 (L2 := [(0, _), (1, _), (2, _), (3, _), (4, _), (5, _)]) d106_127 rfl (by decide) rfl ?_
            refine pm_goto (tgt := 41) d106_130 rfl ?_
            refine pm_pick [0, 1, 2, 3, 4] (L2 := [(0, _), (1, _), (2, _), (3, _), (4, _)]) rfl ?_
            have hW2 := (WI_new (b := lh (sF s) (a * 6 + j)) (qf2 := fun p => if p = r then lh (sF s) (a * 6 + j) else qf p) (df2 := fun b => if b = lh (sF s) (a * 6 + j) then df (qf i) + 1 else df b) F1 F6 hW hir (by rw [hqa]; exact c_52) (by rw [hqa]; simp [opn, c_78, c_91]) (by rw [hqa]) hn (if_pos rfl) (fun p hp => if_neg hp) (if_pos rfl) (fun c hc => if_neg hc)).1
            rw [hqa] at hW2
            exact ih c_52 _ (r + 1) _ _ (by omega) (by show (if i = r then _ else _) = a; rw [if_neg (by omega)]; exact hqa) (fun c q1 q2 q3 => by rw [mset_other q1, mset_other q3, mset_other q2]; exact hA c q1 q2 q3) hW2
  have outer : ∀ n i, i + n = 146 → ∀ (A1 : Mem) (r : Nat) (qf df : Nat → Nat), (∀ c, c ≠ 37 → c ≠ 38 → c ≠ 39 → A1 c = A c) → WI s u A1 i 0 r qf df → pm_P 106 10 [(0, .ref 0), (1, .int (nI u)), (2, .int (nI i))] [] A1 Q := by
    intro n
    induction n with
    | zero =>
      intro i hi9 A1 r qf df hA hW
      have hrn : r ≤ nh (sF s) := by rw [hW.2.1]; exact cnt_le _ _
      have hir := hW.2.2.1
      have e : i = r := by omega
      refine pm_iload_n (i := 2) d106_10 rfl rfl ?_
      refine pm_sipush (v := nI 146) d106_11 (by decide) ?_
      first | refine pm_icmp_geN (tgt := 139) d106_14 rfl (by omega) (by omega) (fun c_14 => ?_) (fun c_14 => ?_) | refine pm_icmp_ge (tgt := 139) d106_14 rfl (fun c_14 => ?_) (fun c_14 => ?_)
      · refine pm_vret d106_139 rfl ?_
        rw [e] at hW
        exact h A1 hA (fun v hv => WI_end hb.1 hu hv hW)
      · omega
    | succ n ihn =>
      intro i hi9 A1 r qf df hA hW
      have hrn : r ≤ nh (sF s) := by rw [hW.2.1]; exact cnt_le _ _
      have hir := hW.2.2.1
      have hI1 : CI s A1 := CI_keep hI (fun c hc => hA c (by omega) (by omega) (by omega))
      refine pm_iload_n (i := 2) d106_10 rfl rfl ?_
      refine pm_sipush (v := nI 146) d106_11 (by decide) ?_
      first | refine pm_icmp_geN (tgt := 139) d106_14 rfl (by omega) (by omega) (fun c_14 => ?_) (fun c_14 => ?_) | refine pm_icmp_ge (tgt := 139) d106_14 rfl (fun c_14 => ?_) (fun c_14 => ?_)
      · omega
      · refine pm_iload_n (i := 2) d106_17 rfl rfl ?_
        refine pm_aload_n (i := 0) d106_18 rfl rfl ?_
        refine pm_getR d106_19 lf_10_54 rfl rfl ?_
        refine pm_getE d106_22 lf_10_335 rfl rfl (hW.1) ?_
        first | refine pm_icmp_geN (tgt := 139) d106_25 rfl (by omega) (by omega) (fun c_25 => ?_) (fun c_25 => ?_) | refine pm_icmp_ge (tgt := 139) d106_25 rfl (fun c_25 => ?_) (fun c_25 => ?_)
        · refine pm_vret d106_139 rfl ?_
          rw [show i = r by omega] at hW
          exact h A1 hA (fun v hv => WI_end hb.1 hu hv hW)
        · refine pm_aload_n (i := 0) d106_28 rfl rfl ?_
          refine pm_getR d106_29 lf_10_54 rfl rfl ?_
          refine pm_getR d106_32 lf_10_338 rfl rfl ?_
          refine pm_iload_n (i := 2) d106_35 rfl rfl ?_
          refine pm_ialdN d106_36 rfl (by decide) (by omega) ?_
          rw [(hW.2.2.2.1 i c_25).2.1]
          refine pm_istore_n (i := 3) (L2 := [(0, _), (1, _), (2, _), (3, _)]) d106_37 rfl (by decide) rfl ?_
          refine pm_iconst (v := nI 0) d106_38 (by decide) ?_
          refine pm_istore (L2 := [(0, _), (1, _), (2, _), (3, _), (4, _)]) d106_39 (by decide) rfl ?_
          refine inner i (fun A3 r3 qf3 df3 hir3 hA3 hW3 => ?_) (qf i) (hW.2.2.2.1 i c_25).1 0 (Nat.zero_le _) A1 r qf df c_25 rfl hA hW
          refine pm_iincN 1 (L2 := [(0, _), (1, _), (2, _)]) d106_133 rfl (by decide) rfl ?_
          refine pm_goto (tgt := 10) d106_136 rfl ?_
          exact ihn (i + 1) (by omega) A3 r3 qf3 df3 hA3 (WI_next F1 F6 hir3 hW3)
  refine pm_aload_n (i := 0) d106_0 rfl rfl ?_
  refine pm_getR d106_1 lf_10_54 rfl rfl ?_
  refine pm_iload_n (i := 1) d106_4 rfl rfl ?_
  refine pm_callVv (k2 := 56) (As := [_]) d106_5 lk_10_332 ok_56 rfl rfl rfl (Nat.le_of_ble_eq_true rfl) rfl rfl rfl rfl rfl ⟨Nat.le_of_ble_eq_true rfl, Nat.le_of_ble_eq_true rfl⟩ (Nat.le_of_ble_eq_true rfl) ?_
  refine sp_56 (by omega) (fun A1 g1 g2 g3 g4 g5 => ?_)
  refine pm_iconst (v := nI 0) d106_8 (by decide) ?_
  refine pm_istore_n (i := 2) (L2 := [(0, _), (1, _), (2, _)]) d106_9 rfl (by decide) rfl ?_
  refine outer 146 0 rfl A1 1 (fun _ => u) (fun _ => 0) g1 ⟨g2, ?_, by omega, fun p hp => ⟨hu, by rw [show p = 0 by omega]; exact g5, Nat.zero_le _⟩, fun b hb9 hn => ?_, fun p hp => ?_, fun _ _ _ _ => Nat.le_refl 0, fun _ _ _ => Nat.zero_le _, fun p b hp => by omega, fun m hm => by omega, ?_, rfl⟩
  · have e1 : cnt (fun b => !decide (A1 38 b = -1)) (nh (sF s)) = cnt (fun _ => false) (nh (sF s)) + 1 := cnt_set hu rfl (by rw [g3]; rfl) (fun c hc9 hc => by simp [g4 c (by omega) hc])
    rw [e1]
    have : ∀ n, cnt (fun _ => false) n = 0 := fun n => by
      induction n with
      | zero => rfl
      | succ n ih => simp [cnt, ih]
    rw [this]
  · have e : b = u := by
      by_cases e : b = u
      · exact e
      · exact absurd (g4 b (by omega) e) hn
    rw [e]
    exact ⟨g3, rfl, 0, by omega, rfl⟩
  · rw [g3]; decide
  · rw [g3]; decide
