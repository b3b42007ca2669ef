/-! THE ANSWERS, as the document has them: a state, its history, a text; each call's answer and what is then -/
abbrev Sig : Type := Stt × Hst × Txt
def wi (v : Int32) (a b : Nat) : Bool := decide (nI a ≤ v) && decide (v ≤ nI b)
theorem wi_of {v : Int32} {a b : Nat} (ha : a < 2 ^ 31) (hb : b < 2 ^ 31) (h : wi v a b = true) : ∃ n, a ≤ n ∧ n ≤ b ∧ v = nI n := by
  simp only [wi, Bool.and_eq_true, decide_eq_true_eq] at h
  have h0 : ¬ v < 0 := fun q => by
    have h1 := Int32.le_iff_toInt_le.mp h.1
    have h2 := Int32.lt_iff_toInt_lt.mp q
    rw [nI_toInt ha] at h1
    rw [Int32.toInt_zero] at h2
    omega
  obtain ⟨n, hn, rfl⟩ := nI_of h0
  rw [nI_le_iff ha hn, nI_le_iff hn hb] at h
  exact ⟨n, h.1, h.2, rfl⟩
/-- a number below n, or n -/
def ix (v : Int32) (n : Nat) : Nat := if inN v n = true then v.toNatClampNeg else n
theorem ix_nI {a n : Nat} (ha : a < n) (hn : n < 2 ^ 31) : ix (nI a) n = a := by
  unfold ix
  rw [if_pos (inN_nI ha hn), nI_clamp (by omega)]
theorem ix_out {v : Int32} {n : Nat} (h1 : 1 ≤ n) (hn : n < 2 ^ 31) (h : ∀ j, j < n → ¬ v = nI j) : ix v n = n := by
  unfold ix
  rw [if_neg (fun q => ?_)]
  obtain ⟨a, ha, e⟩ := inN_of h1 hn q
  exact h a ha e
def none9 : Nat → Bool := fun _ => false
def aSplit (σ : Sig) (v : Int32) : Int32 × Sig := if wi v 1 6 = true then (nI (nh v.toNatClampNeg), ((v.toNatClampNeg, sR σ.1, -v, sB σ.1, sW σ.1, none9), hpush σ.2.1 σ.1, σ.2.2)) else (-1001, σ)
def aRad (σ : Sig) (v : Int32) : Int32 × Sig := if wi v 10 2000 = true then (nI (sR σ.1), ((sF σ.1, v.toNatClampNeg, sL σ.1, sB σ.1, sW σ.1, sM σ.1), hpush σ.2.1 σ.1, σ.2.2)) else (-1001, σ)
def wc (v : Int32) (f : Nat) : Bool := decide (-nI f ≤ v) && decide (v ≤ nI f)
def sCut (s : Stt) (v : Int32) : Stt := (sF s, sR s, v, sB s, sW s, sM s)
def aCut (σ : Sig) (v : Int32) : Int32 × Sig := if wc v (sF σ.1) = true then (nI (cnt (kh (sCut σ.1 v)) (nh (sF σ.1))), (sCut σ.1 v, hpush σ.2.1 σ.1, σ.2.2)) else (-1001, σ)
def aStock (σ : Sig) (b w : Int32) : Int32 × Sig := if (wi b 100 20000 && wi w 0 20) = true then (if fitB σ.1 (sR σ.1) b.toNatClampNeg = true then (nI (swn σ.1 (sR σ.1) b.toNatClampNeg w.toNatClampNeg).1, ((sF σ.1, sR σ.1, sL σ.1, b.toNatClampNeg, w.toNatClampNeg, sM σ.1), hpush σ.2.1 σ.1, σ.2.2)) else (-1002, σ)) else (-1001, σ)
def cntA (σ : Sig) : Nat → Int32
  | 0 => nI (sF σ.1)
  | 1 => nI (nh (sF σ.1))
  | 2 => nI (ns (sF σ.1))
  | 3 => nI (nf (sF σ.1))
  | 4 => nI (nk (sF σ.1))
  | 5 => nI (sR σ.1)
  | 6 => sL σ.1
  | 7 => nI (cnt (kh σ.1) (nh (sF σ.1)))
  | 8 => nI (cnt (ks σ.1) (ns (sF σ.1)))
  | 9 => nI (cnt (kf σ.1) (nf (sF σ.1)))
  | 10 => nI (cnt (bh σ.1) (nh (sF σ.1)))
  | 11 => nI (cnt (fun i => ks σ.1 i && sM σ.1 i) (ns (sF σ.1)))
  | 12 => nI (cnt (fun i => kf σ.1 i && !cf σ.1 i) (nf (sF σ.1)))
  | 13 => nI (cnt (kh σ.1) (nh (sF σ.1))) - nI (cnt (ks σ.1) (ns (sF σ.1))) + nI (cnt (kf σ.1) (nf (sF σ.1)))
  | 14 => nI (sB σ.1)
  | 15 => nI (sW σ.1)
  | 16 => nI σ.2.1.1
  | 17 => nI σ.2.2.1
  | 18 => nI (cnt (sM σ.1) 432)
  | _ => -1001
def aCount (σ : Sig) (v : Int32) : Int32 := cntA σ (ix v 19)
def aUndo (σ : Sig) : Int32 × Sig := if σ.2.1.1 = 0 then (-1002, σ) else (nI (σ.2.1.1 - 1), (σ.2.1.2 (σ.2.1.1 - 1), (σ.2.1.1 - 1, σ.2.1.2), σ.2.2))
def hubA (s : Stt) (a : Nat) : Nat → Int32
  | 0 => hx (sF s) a
  | 1 => hy (sF s) a
  | 2 => hz (sF s) a
  | 3 => nI (dg (sF s) a)
  | 4 => nI (dgr s a)
  | 5 => b2i (kh s a)
  | 6 => b2i (bh s a)
  | 7 => pr (sF s) a a
  | 8 => nI (al (sF s) a)
  | _ => -1001
def aHub (s : Stt) (u v : Int32) : Int32 := if inN u (nh (sF s)) = true then hubA s u.toNatClampNeg (ix v 9) else -1001
def co6 (v : Int32) : Bool := decide (-6 ≤ v) && decide (v ≤ 6)
def aHubAt (s : Stt) (x y z : Int32) : Int32 := if (co6 x && (co6 y && co6 z)) = true then opI (-1004) (fst (fdp (sF s) x y z) (nh (sF s))) else -1001
def aJoined (s : Stt) (u v : Int32) : Int32 := if (inN u (nh (sF s)) && decide (0 ≤ v)) = true then (if v.toNatClampNeg < dg (sF s) u.toNatClampNeg then nI (lh (sF s) (u.toNatClampNeg * 6 + v.toNatClampNeg)) else -1004) else -1001
def ledA (f a : Nat) : Nat → Int32
  | 0 => nI (ld0 f a)
  | 1 => nI (ld1 f a)
  | 2 => nI (ld2 f a)
  | 3 => nI (ld3 f a)
  | 4 => nI (ld4 f a)
  | 5 => nI (ld5 f a)
  | _ => -1001
def aLed (s : Stt) (u v : Int32) : Int32 := if inN u (nh (sF s)) = true then ledA (sF s) u.toNatClampNeg (ix v 6) else -1001
noncomputable def wayA (s : Stt) (a b : Nat) : Int32 := Classical.epsilon (WayIs s a b)
theorem wayA_eq {s : Stt} {a b : Nat} {x : Int32} (h : WayIs s a b x) : wayA s a b = x := WayIs_one (Classical.epsilon_spec ⟨x, h⟩) h
noncomputable def aWay (s : Stt) (u v : Int32) : Int32 := if (inN u (nh (sF s)) && inN v (nh (sF s))) = true then (if (kh s u.toNatClampNeg && kh s v.toNatClampNeg) = true then wayA s u.toNatClampNeg v.toNatClampNeg else -1002) else -1001
def aStrut (s : Stt) (u v : Int32) : Int32 := if (inN u (nh (sF s)) && inN v (nh (sF s))) = true then opI (-1004) (btw (sF s) u.toNatClampNeg v.toNatClampNeg) else -1001
def strA (s : Stt) (k : Nat) : Nat → Int32
  | 0 => nI (lo (sF s) k)
  | 1 => nI (hi (sF s) k)
  | 2 => nI (ko (sF s) k)
  | 3 => nI (len (sF s) (ko (sF s) k) (sR s))
  | 4 => b2i (ks s k)
  | 5 => b2i (sM s k)
  | 6 => nI (kn (sF s) k)
  | 7 => nI (kd (sF s) k)
  | 8 => barA s k
  | _ => -1001
def aStrutOf (s : Stt) (u v : Int32) : Int32 := if inN u (ns (sF s)) = true then strA s u.toNatClampNeg (ix v 9) else -1001
def kndA (s : Stt) (q : Nat) : Nat → Int32
  | 0 => nI (len (sF s) q (sR s))
  | 1 => nI (cnt (okind s q false false) (ns (sF s)))
  | 2 => nI (cnt (okind s q true false) (ns (sF s)))
  | 3 => nI (cnt (okind s q true true) (ns (sF s)))
  | 4 => nI (fk (sF s) q)
  | _ => -1001
def aKind (s : Stt) (u v : Int32) : Int32 := if inN u (nk (sF s)) = true then kndA s u.toNatClampNeg (ix v 5) else -1001
def facA (s : Stt) (i : Nat) : Nat → Int32
  | 0 => nI (co (sF s) (3 * i))
  | 1 => nI (co (sF s) (3 * i + 1))
  | 2 => nI (co (sF s) (3 * i + 2))
  | 3 => b2i (kf s i)
  | 4 => b2i (cf s i)
  | 5 => nI (kof (sF s) i)
  | 6 => nI (len (sF s) (ko (sF s) (sd (sF s) (3 * i))) (sR s) + len (sF s) (ko (sF s) (sd (sF s) (3 * i + 1))) (sR s) + len (sF s) (ko (sF s) (sd (sF s) (3 * i + 2))) (sR s))
  | _ => -1001
def aFace (s : Stt) (u v : Int32) : Int32 := if inN u (nf (sF s)) = true then facA s u.toNatClampNeg (ix v 7) else -1001
def sSet (s : Stt) (k : Nat) (b : Bool) : Stt := (sF s, sR s, sL s, sB s, sW s, uN (sM s) k b)
def aLose (σ : Sig) (u : Int32) : Int32 × Sig := if inN u (ns (sF σ.1)) = true then (if sM σ.1 u.toNatClampNeg = true then (-1002, σ) else if 40 ≤ cnt (sM σ.1) 432 then (-1003, σ) else (nI (clo σ.1 u.toNatClampNeg), (sSet σ.1 u.toNatClampNeg true, hpush σ.2.1 σ.1, σ.2.2))) else (-1001, σ)
def aPut (σ : Sig) (u : Int32) : Int32 × Sig := if inN u (ns (sF σ.1)) = true then (if sM σ.1 u.toNatClampNeg = true then (nI (clo (sSet σ.1 u.toNatClampNeg false) u.toNatClampNeg), (sSet σ.1 u.toNatClampNeg false, hpush σ.2.1 σ.1, σ.2.2)) else (-1002, σ)) else (-1001, σ)
def aMend (σ : Sig) : Int32 × Sig := (nI (cnt (sM σ.1) 432), ((sF σ.1, sR σ.1, sL σ.1, sB σ.1, sW σ.1, none9), hpush σ.2.1 σ.1, σ.2.2))
/-- the worst strut below n -/
def wst (s : Stt) : Nat → Option Nat
  | 0 => none
  | n + 1 => if (ks s n && !sM s n) = true then (match wst s n with
    | none => some n
    | some w => if clo s w < clo s n then some n else some w) else wst s n
def aWorst (s : Stt) : Int32 := opI (-1004) (wst s (ns (sF s)))
def stkA (s : Stt) : Nat → Int32
  | 0 => nI (swn s (sR s) (sB s) (sW s)).1
  | 1 => nI (smN (swn s (sR s) (sB s) (sW s)).2.1 (swn s (sR s) (sB s) (sW s)).1)
  | 2 => nI (mxN (swn s (sR s) (sB s) (sW s)).2.2.1 (swn s (sR s) (sB s) (sW s)).1)
  | _ => nI (smN (fun i => lnS s (sR s) (kp s i)) (nw s))
def aStk (s : Stt) (v : Int32) : Int32 := if wi v 0 3 = true then (if fitB s (sR s) (sB s) = true then stkA s (ix v 4) else -1002) else -1001
/-- the greatest number below n with p -/
def rdn (p : Nat → Bool) : Nat → Option Nat
  | 0 => none
  | n + 1 => if p n = true then some n else rdn p n
def rfP (s : Stt) (m : Nat) : Nat → Bool := fun R => decide (10 ≤ R) && enough s R (sB s) (sW s) m
def aRadFor (s : Stt) (b : Int32) : Int32 := if wi b 1 1000 = true then opI (-1004) (rdn (rfP s b.toNatClampNeg) 2001) else -1001
def aType (σ : Sig) (v : Int32) : Int32 × Sig := if wi v 32 126 = true then (if 80 ≤ σ.2.2.1 then (-1003, σ) else (nI (σ.2.2.1 + 1), (σ.1, σ.2.1, (σ.2.2.1 + 1, uN σ.2.2.2 σ.2.2.1 v.toNatClampNeg)))) else (-1001, σ)
def aClear (σ : Sig) : Int32 × Sig := (nI σ.2.2.1, (σ.1, σ.2.1, (0, σ.2.2.2)))
def aFault (σ : Sig) (v : Int32) : Int32 := if wi v 0 1 = true then (if (rd0 σ.1 σ.2.2).1 = 0 then -1004 else if v = nI 0 then nI (rd0 σ.1 σ.2.2).2.1 else nI (rd0 σ.1 σ.2.2).1) else -1001
def sAdd (s : Stt) (c : Nat) (l : Nat → Nat) : Stt := (sF s, sR s, sL s, sB s, sW s, fun i => sM s i || anyN (fun j => decide (l j = i)) c)
def aLoseAll (σ : Sig) : Int32 × Sig := if (rd0 σ.1 σ.2.2).1 = 0 then (if 40 < cnt (sM σ.1) 432 + (rd0 σ.1 σ.2.2).2.2.1 then (-1003, σ) else (nI (rd0 σ.1 σ.2.2).2.2.1, (sAdd σ.1 (rd0 σ.1 σ.2.2).2.2.1 (rd0 σ.1 σ.2.2).2.2.2, hpush σ.2.1 σ.1, σ.2.2))) else (-1002, σ)
/-- the class's world holds all of it -/
def CW (σ : Sig) (A : Mem) : Prop := CI σ.1 A ∧ HI σ.2.1 A ∧ TXA σ.2.2 A ∧ okT σ.2.2
theorem CW_keep {σ : Sig} {A A2 : Mem} (h : CW σ A) (hk : ∀ c, c ≤ 36 → A2 c = A c) (h1 : A2 47 1 = A 47 1) (h2 : A2 48 = A 48) : CW σ A2 :=
  ⟨CI_keep h.1 (fun c hc => hk c (by omega)), HI_keep h.2.1 (fun c _ hc => hk c hc), TXA_keep h.2.2.1 h1 h2, h.2.2.2⟩
-- tables
theorem tk_al : allF (fun f => allN (nh f) (fun a => Nat.beq (cnt (fun i => Nat.beq (mx f i) (mx f a) && Nat.beq (mn f i) (mn f a)) (nh f)) (al f a))) = true := by decide +kernel
theorem alp_eq {f a : Nat} (h1 : 1 ≤ f) (h6 : f ≤ 6) (ha : a < nh f) : cnt (alp f a) (nh f) = al f a := by
  have h2 := allN_of (allF_of tk_al h1 h6) ha
  rw [Nat.beq_eq] at h2
  rw [← h2]
  refine cnt_congr (fun i _ => ?_)
  unfold alp
  rw [Bool.eq_iff_iff]
  simp only [Bool.and_eq_true, decide_eq_true_eq, Nat.beq_eq]
theorem tk_inj : allF (fun f => allN (nh f) (fun a => allN a (fun b => !(Nat.beq (tn (tb_hx f) a) (tn (tb_hx f) b) && (Nat.beq (tn (tb_hy f) a) (tn (tb_hy f) b) && Nat.beq (tn (tb_hz f) a) (tn (tb_hz f) b)))))) = true := by decide +kernel
theorem tk_zi : ∀ m : Nat, m < 13 → ∀ n : Nat, n < 13 → Int32.ofInt ((m : Int) - 6) = Int32.ofInt ((n : Int) - 6) → m = n := by decide +kernel
theorem hub_inj {f a b : Nat} (h1 : 1 ≤ f) (h6 : f ≤ 6) (ha : a < nh f) (hb : b < nh f) (e1 : hx f a = hx f b) (e2 : hy f a = hy f b) (e3 : hz f a = hz f b) : a = b := by
  obtain ⟨a1, a2, a3⟩ := bd_13 h1 h6 ha
  obtain ⟨b1, b2, b3⟩ := bd_13 h1 h6 hb
  have c1 := tk_zi _ a1 _ b1 e1
  have c2 := tk_zi _ a2 _ b2 e2
  have c3 := tk_zi _ a3 _ b3 e3
  have key : ∀ x y, x < nh f → y < x → ¬ (tn (tb_hx f) x = tn (tb_hx f) y ∧ tn (tb_hy f) x = tn (tb_hy f) y ∧ tn (tb_hz f) x = tn (tb_hz f) y) := by
    intro x y hx9 hy9 q
    have h2 := allN_of (allN_of (allF_of tk_inj h1 h6) hx9) hy9
    simp only [Bool.not_eq_true', ← Bool.not_eq_true, Bool.and_eq_true, Nat.beq_eq] at h2
    exact h2 q
  rcases Nat.lt_trichotomy a b with q | q | q
  · exact absurd ⟨c1.symm, c2.symm, c3.symm⟩ (key b a hb q)
  · exact q
  · exact absurd ⟨c1, c2, c3⟩ (key a b ha q)
theorem fst_u {p : Nat → Bool} {n i : Nat} (hi9 : i < n) (h : p i = true) (hu : ∀ j, j < n → p j = true → j = i) : fst p n = some i := by
  cases e : fst p n with
  | some j => rw [hu j (fst_lt e).1 (fst_lt e).2]
  | none =>
    have : ∀ m, fst p m = none → ∀ j, j < m → p j = false := by
      intro m
      induction m with
      | zero => intro _ j hj; omega
      | succ m ih =>
        intro hm j hj
        simp only [fst] at hm
        cases e2 : fst p m with
        | some k => rw [e2] at hm; cases hm
        | none =>
          rw [e2] at hm
          by_cases ej : j = m
          · rw [ej]
            cases e3 : p m with
            | false => rfl
            | true => rw [e3] at hm; cases hm
          · exact ih e2 j (by omega)
    rw [this n e i hi9] at h
    cases h
theorem fdp_at {f i : Nat} {x y z : Int32} (h1 : 1 ≤ f) (h6 : f ≤ 6) (hi9 : i < nh f) (e1 : hx f i = x) (e2 : hy f i = y) (e3 : hz f i = z) : fst (fdp f x y z) (nh f) = some i := by
  refine fst_u hi9 ?_ (fun j hj h => ?_)
  · unfold fdp
    rw [decide_eq_true e1, decide_eq_true e2, decide_eq_true e3]
    rfl
  · simp only [fdp, Bool.and_eq_true, decide_eq_true_eq] at h
    exact hub_inj h1 h6 hj hi9 (h.1.trans e1.symm) (h.2.1.trans e2.symm) (h.2.2.trans e3.symm)
theorem tk_ld : allF (fun f => allN (nh f) (fun a => (Nat.blt (ld0 f a) (nh f) && (decide (hx f (ld0 f a) = -hx f a) && (decide (hy f (ld0 f a) = hy f a) && decide (hz f (ld0 f a) = hz f a)))) && ((Nat.blt (ld1 f a) (nh f) && (decide (hx f (ld1 f a) = hx f a) && (decide (hy f (ld1 f a) = -hy f a) && decide (hz f (ld1 f a) = hz f a)))) && ((Nat.blt (ld2 f a) (nh f) && (decide (hx f (ld2 f a) = hx f a) && (decide (hy f (ld2 f a) = hy f a) && decide (hz f (ld2 f a) = -hz f a)))) && ((Nat.blt (ld3 f a) (nh f) && (decide (hx f (ld3 f a) = -hy f a) && (decide (hy f (ld3 f a) = hx f a) && decide (hz f (ld3 f a) = hz f a)))) && ((Nat.blt (ld4 f a) (nh f) && (decide (hx f (ld4 f a) = hy f a) && (decide (hy f (ld4 f a) = hz f a) && decide (hz f (ld4 f a) = hx f a)))) && (Nat.blt (ld5 f a) (nh f) && (decide (hx f (ld5 f a) = -hx f a) && (decide (hy f (ld5 f a) = -hy f a) && decide (hz f (ld5 f a) = -hz f a)))))))))) = true := by decide +kernel
theorem bd_ld {f a : Nat} (h1 : 1 ≤ f) (h6 : f ≤ 6) (ha : a < nh f) : fst (fdp f (-hx f a) (hy f a) (hz f a)) (nh f) = some (ld0 f a) ∧ fst (fdp f (hx f a) (-hy f a) (hz f a)) (nh f) = some (ld1 f a) ∧ fst (fdp f (hx f a) (hy f a) (-hz f a)) (nh f) = some (ld2 f a) ∧ fst (fdp f (-hy f a) (hx f a) (hz f a)) (nh f) = some (ld3 f a) ∧ fst (fdp f (hy f a) (hz f a) (hx f a)) (nh f) = some (ld4 f a) ∧ fst (fdp f (-hx f a) (-hy f a) (-hz f a)) (nh f) = some (ld5 f a) := by
  have h2 := allN_of (allF_of tk_ld h1 h6) ha
  simp only [Bool.and_eq_true, decide_eq_true_eq, Nat.blt_eq] at h2
  obtain ⟨⟨a1, a2, a3, a4⟩, ⟨b1, b2, b3, b4⟩, ⟨c1, c2, c3, c4⟩, ⟨d1, d2, d3, d4⟩, ⟨e1, e2, e3, e4⟩, ⟨g1, g2, g3, g4⟩⟩ := h2
  exact ⟨fdp_at h1 h6 a1 a2 a3 a4, fdp_at h1 h6 b1 b2 b3 b4, fdp_at h1 h6 c1 c2 c3 c4, fdp_at h1 h6 d1 d2 d3 d4, fdp_at h1 h6 e1 e2 e3 e4, fdp_at h1 h6 g1 g2 g3 g4⟩
theorem fst_min {p : Nat → Bool} {n i : Nat} (hi9 : i < n) (h : p i = true) (hu : ∀ j, j < n → p j = true → i ≤ j) : fst p n = some i := by
  have h0 : ∀ m, m ≤ i → fst p m = none := by
    intro m
    induction m with
    | zero => intro _; rfl
    | succ m ih =>
      intro hm
      refine fst_n (ih (by omega)) ?_
      cases e : p m with
      | false => rfl
      | true => have := hu m (by omega) e; omega
  exact fst_s (h0 i (Nat.le_refl i)) h hi9
theorem fk_fst {f q : Nat} (h1 : 1 ≤ f) (h6 : f ≤ 6) (hq : q < nk f) : fst (fun i => decide (ko f i = q)) (ns f) = some (fk f q) := by
  obtain ⟨a1, a2⟩ := bd_fk h1 h6
  have b := a1 q hq
  refine fst_min b.1 (decide_eq_true b.2.1) (fun j hj h => ?_)
  have := a2 j hj
  rw [of_decide_eq_true h] at this
  exact this
theorem rdn_none {s : Stt} {m : Nat} : ∀ n, n ≤ 10 → rdn (rfP s m) n = none := by
  intro n
  induction n with
  | zero => intro _; rfl
  | succ n ih =>
    intro hn
    simp only [rdn]
    rw [if_neg, ih (by omega)]
    unfold rfP
    rw [decide_eq_false (by omega), Bool.false_and]
    decide
