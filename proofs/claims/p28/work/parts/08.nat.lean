/-! the rows again, where the numbers are naturals -/
def b2i (b : Bool) : Int32 := if b then 1 else 0
theorem nar_b (b : Bool) : narrow .boolean (.int (b2i b)) = .int (b2i b) := by cases b <;> rfl
theorem nI_mul (a b : Nat) : nI a * nI b = nI (a * b) := (Int32.ofNat_mul a b).symm
theorem nI_sub {a b : Nat} (h : b ≤ a) : nI a - nI b = nI (a - b) := by
  have e : nI (a - b) + nI b = nI a := by rw [nI_add]; congr 1; omega
  rw [← e, Int32.add_sub_cancel]
theorem nI_inj {a b : Nat} (ha : a < 2 ^ 31) (hb : b < 2 ^ 31) : nI a = nI b ↔ a = b := by
  constructor
  · intro h
    have := congrArg Int32.toNatClampNeg h
    rwa [nI_clamp ha, nI_clamp hb] at this
  · intro h; rw [h]
theorem nI_lt_iff {a b : Nat} (ha : a < 2 ^ 31) (hb : b < 2 ^ 31) : nI a < nI b ↔ a < b := by
  rw [Int32.lt_iff_toInt_lt, nI_toInt ha, nI_toInt hb]; omega
theorem nI_le_iff {a b : Nat} (ha : a < 2 ^ 31) (hb : b < 2 ^ 31) : nI a ≤ nI b ↔ a ≤ b := by
  rw [Int32.le_iff_toInt_le, nI_toInt ha, nI_toInt hb]; omega
theorem nI_inb {j len : Nat} (h : j < len) (hl : len < 2 ^ 31) : vp_in (nI j) len := vp_in_nI h hl
section PMN
variable {k pc : Nat} {L : Lcs} {st : List Value} {A : Mem} {Q : Int32 → Mem → Prop}
theorem pm_iaddN {x y : Nat} (hd : decode (pm_c k) pc = .ok (.iadd, 1)) (h : pm_P k (pc + 1) L (.int (nI (x + y)) :: st) A Q) : pm_P k pc L (.int (nI y) :: .int (nI x) :: st) A Q := pm_iadd hd (by rw [nI_add]; exact h)
theorem pm_imulN {x y : Nat} (hd : decode (pm_c k) pc = .ok (.imul, 1)) (h : pm_P k (pc + 1) L (.int (nI (x * y)) :: st) A Q) : pm_P k pc L (.int (nI y) :: .int (nI x) :: st) A Q := pm_imul hd (by rw [nI_mul]; exact h)
theorem pm_isubN {x y : Nat} (hd : decode (pm_c k) pc = .ok (.isub, 1)) (hxy : y ≤ x) (h : pm_P k (pc + 1) L (.int (nI (x - y)) :: st) A Q) : pm_P k pc L (.int (nI y) :: .int (nI x) :: st) A Q := pm_isub hd (by rw [nI_sub hxy]; exact h)
theorem pm_iincN {i x : Nat} {L2 : Lcs} (n : Nat) (hd : decode (pm_c k) pc = .ok (.iinc i (n : Int), 3)) (hl : pm_g L i = some (.int (nI x))) (hn : i < pm_l k) (hs : pm_s1 L i (.int (nI (x + n))) = L2) (h : pm_P k (pc + 3) L2 st A Q) : pm_P k pc L st A Q :=
  pm_iinc hd hl (by show nI x + Int32.ofInt (n : Int) = nI (x + n); rw [← nI_add]; rfl) hn hs h
theorem pm_ialdN {b len j : Nat} (hd : decode (pm_c k) pc = .ok (.iaload, 1)) (hs : (pm_sh (pm_wo k))[b]? = some (.inr (0, len))) (hl : len < 2 ^ 31) (hj : j < len) (h : pm_P k (pc + 1) L (.int (A b j) :: st) A Q) : pm_P k pc L (.int (nI j) :: .ref b :: st) A Q := pm_iald hd hs (nI_inb hj hl) (by rw [nI_clamp (by omega)]; exact h)
theorem pm_zaldN {b len j : Nat} (hd : decode (pm_c k) pc = .ok (.baload, 1)) (hs : (pm_sh (pm_wo k))[b]? = some (.inr (2, len))) (hl : len < 2 ^ 31) (hj : j < len) (h : pm_P k (pc + 1) L (.int (A b j) :: st) A Q) : pm_P k pc L (.int (nI j) :: .ref b :: st) A Q := pm_zald hd hs (nI_inb hj hl) (by rw [nI_clamp (by omega)]; exact h)
theorem pm_caldN {b len j : Nat} (hd : decode (pm_c k) pc = .ok (.caload, 1)) (hs : (pm_sh (pm_wo k))[b]? = some (.inr (3, len))) (hl : len < 2 ^ 31) (hj : j < len) (h : pm_P k (pc + 1) L (.int (A b j) :: st) A Q) : pm_P k pc L (.int (nI j) :: .ref b :: st) A Q := pm_cald hd hs (nI_inb hj hl) (by rw [nI_clamp (by omega)]; exact h)
theorem pm_aaldN {b len j t : Nat} (hd : decode (pm_c k) pc = .ok (.aaload, 1)) (hs : (pm_sh (pm_wo k))[b]? = some (.inr (4, len))) (hl : len < 2 ^ 31) (hj : j < len) (ht : A b j = nI t) (htl : t < 2 ^ 31) (h : pm_P k (pc + 1) L (.ref t :: st) A Q) : pm_P k pc L (.int (nI j) :: .ref b :: st) A Q := pm_aald hd hs (nI_inb hj hl) (by rw [nI_clamp (by omega), ht, nI_clamp htl]; exact h)
theorem pm_iastN {b len j : Nat} {x : Int32} (hd : decode (pm_c k) pc = .ok (.iastore, 1)) (hs : (pm_sh (pm_wo k))[b]? = some (.inr (0, len))) (hl : len < 2 ^ 31) (hj : j < len) (h : pm_P k (pc + 1) L st (mset A b j x) Q) : pm_P k pc L (.int x :: .int (nI j) :: .ref b :: st) A Q := pm_iast hd hs (nI_inb hj hl) (by rw [nI_clamp (by omega)]; exact h)
theorem nar_z (b : Bool) : vp_nar .boolean (b2i b) = b2i b := by cases b <;> rfl
theorem pm_zastN {b len j : Nat} {x : Int32} (hd : decode (pm_c k) pc = .ok (.bastore, 1)) (hs : (pm_sh (pm_wo k))[b]? = some (.inr (2, len))) (hl : len < 2 ^ 31) (hj : j < len) (hx : vp_nar .boolean x = x) (h : pm_P k (pc + 1) L st (mset A b j x) Q) : pm_P k pc L (.int x :: .int (nI j) :: .ref b :: st) A Q := pm_zast hd hs (nI_inb hj hl) (by rw [nI_clamp (by omega), hx]; exact h)
theorem pm_castN {b len j : Nat} {x : Int32} (hd : decode (pm_c k) pc = .ok (.castore, 1)) (hs : (pm_sh (pm_wo k))[b]? = some (.inr (3, len))) (hl : len < 2 ^ 31) (hj : j < len) (hx : vp_nar .char x = x) (h : pm_P k (pc + 1) L st (mset A b j x) Q) : pm_P k pc L (.int x :: .int (nI j) :: .ref b :: st) A Q := pm_cast hd hs (nI_inb hj hl) (by rw [nI_clamp (by omega), hx]; exact h)
theorem pm_aastN {b len j v : Nat} {sl : List (Option Nat)} (hd : decode (pm_c k) pc = .ok (.aastore, 1)) (hs : (pm_sh (pm_wo k))[b]? = some (.inr (4, len))) (hv : (pm_sh (pm_wo k))[v]? = some (.inl (6, sl))) (hv2 : v < 2 ^ 31) (hl : len < 2 ^ 31) (hj : j < len) (h : pm_P k (pc + 1) L st (mset A b j (nI v)) Q) : pm_P k pc L (.ref v :: .int (nI j) :: .ref b :: st) A Q := pm_aast hd hs hv (nI_clamp hv2) (nI_inb hj hl) (by rw [nI_clamp (by omega)]; exact h)
theorem pm_icmp_eqN {x y : Nat} {off : Int} {tgt : Nat} (hd : decode (pm_c k) pc = .ok (.if_icmp .eq off, 3)) (ht : (pc : Int) + off = (tgt : Int)) (hx : x < 2 ^ 31) (hy : y < 2 ^ 31) (kt : x = y → pm_P k tgt L st A Q) (kf : ¬ x = y → pm_P k (pc + 3) L st A Q) : pm_P k pc L (.int (nI y) :: .int (nI x) :: st) A Q := pm_icmp_eq hd ht (fun c => kt ((nI_inj hx hy).mp c)) (fun c => kf (by have c2 : ¬ x = y := fun q => c ((nI_inj hx hy).mpr q); omega))
theorem pm_icmp_neN {x y : Nat} {off : Int} {tgt : Nat} (hd : decode (pm_c k) pc = .ok (.if_icmp .ne off, 3)) (ht : (pc : Int) + off = (tgt : Int)) (hx : x < 2 ^ 31) (hy : y < 2 ^ 31) (kt : ¬ x = y → pm_P k tgt L st A Q) (kf : x = y → pm_P k (pc + 3) L st A Q) : pm_P k pc L (.int (nI y) :: .int (nI x) :: st) A Q := pm_icmp_ne hd ht (fun c => kt (fun q => c (by rw [q]))) (fun c => kf ((nI_inj hx hy).mp c))
theorem pm_icmp_ltN {x y : Nat} {off : Int} {tgt : Nat} (hd : decode (pm_c k) pc = .ok (.if_icmp .lt off, 3)) (ht : (pc : Int) + off = (tgt : Int)) (hx : x < 2 ^ 31) (hy : y < 2 ^ 31) (kt : x < y → pm_P k tgt L st A Q) (kf : y ≤ x → pm_P k (pc + 3) L st A Q) : pm_P k pc L (.int (nI y) :: .int (nI x) :: st) A Q := pm_icmp_lt hd ht (fun c => kt ((nI_lt_iff hx hy).mp c)) (fun c => kf (by have c2 : ¬ x < y := fun q => c ((nI_lt_iff hx hy).mpr q); omega))
theorem pm_icmp_geN {x y : Nat} {off : Int} {tgt : Nat} (hd : decode (pm_c k) pc = .ok (.if_icmp .ge off, 3)) (ht : (pc : Int) + off = (tgt : Int)) (hx : x < 2 ^ 31) (hy : y < 2 ^ 31) (kt : y ≤ x → pm_P k tgt L st A Q) (kf : x < y → pm_P k (pc + 3) L st A Q) : pm_P k pc L (.int (nI y) :: .int (nI x) :: st) A Q := pm_icmp_ge hd ht (fun c => kt ((nI_le_iff hy hx).mp c)) (fun c => kf (by have c2 : ¬ y ≤ x := fun q => c ((nI_le_iff hy hx).mpr q); omega))
theorem pm_icmp_gtN {x y : Nat} {off : Int} {tgt : Nat} (hd : decode (pm_c k) pc = .ok (.if_icmp .gt off, 3)) (ht : (pc : Int) + off = (tgt : Int)) (hx : x < 2 ^ 31) (hy : y < 2 ^ 31) (kt : y < x → pm_P k tgt L st A Q) (kf : x ≤ y → pm_P k (pc + 3) L st A Q) : pm_P k pc L (.int (nI y) :: .int (nI x) :: st) A Q := pm_icmp_gt hd ht (fun c => kt ((nI_lt_iff hy hx).mp c)) (fun c => kf (by have c2 : ¬ y < x := fun q => c ((nI_lt_iff hy hx).mpr q); omega))
theorem pm_icmp_leN {x y : Nat} {off : Int} {tgt : Nat} (hd : decode (pm_c k) pc = .ok (.if_icmp .le off, 3)) (ht : (pc : Int) + off = (tgt : Int)) (hx : x < 2 ^ 31) (hy : y < 2 ^ 31) (kt : x ≤ y → pm_P k tgt L st A Q) (kf : y < x → pm_P k (pc + 3) L st A Q) : pm_P k pc L (.int (nI y) :: .int (nI x) :: st) A Q := pm_icmp_le hd ht (fun c => kt ((nI_le_iff hx hy).mp c)) (fun c => kf (by have c2 : ¬ x ≤ y := fun q => c ((nI_le_iff hx hy).mpr q); omega))
theorem pm_if_eqN {x : Nat} {off : Int} {tgt : Nat} (hd : decode (pm_c k) pc = .ok (.ifCond .eq off, 3)) (ht : (pc : Int) + off = (tgt : Int)) (hx : x < 2 ^ 31) (kt : x = 0 → pm_P k tgt L st A Q) (kf : 0 < x → pm_P k (pc + 3) L st A Q) : pm_P k pc L (.int (nI x) :: st) A Q := by
  have e : (0 : Int32) = nI 0 := rfl
  refine pm_if_eq hd ht (fun c => kt ?_) (fun c => kf ?_) <;> rw [e] at c <;> simp only [nI_inj hx (show 0 < 2 ^ 31 by decide), nI_lt_iff (show 0 < 2 ^ 31 by decide) hx, nI_le_iff hx (show 0 < 2 ^ 31 by decide)] at c <;> omega
theorem pm_if_neN {x : Nat} {off : Int} {tgt : Nat} (hd : decode (pm_c k) pc = .ok (.ifCond .ne off, 3)) (ht : (pc : Int) + off = (tgt : Int)) (hx : x < 2 ^ 31) (kt : 0 < x → pm_P k tgt L st A Q) (kf : x = 0 → pm_P k (pc + 3) L st A Q) : pm_P k pc L (.int (nI x) :: st) A Q := by
  have e : (0 : Int32) = nI 0 := rfl
  refine pm_if_ne hd ht (fun c => kt ?_) (fun c => kf ?_) <;> rw [e] at c <;> simp only [nI_inj hx (show 0 < 2 ^ 31 by decide), nI_lt_iff (show 0 < 2 ^ 31 by decide) hx, nI_le_iff hx (show 0 < 2 ^ 31 by decide)] at c <;> omega
theorem pm_if_gtN {x : Nat} {off : Int} {tgt : Nat} (hd : decode (pm_c k) pc = .ok (.ifCond .gt off, 3)) (ht : (pc : Int) + off = (tgt : Int)) (hx : x < 2 ^ 31) (kt : 0 < x → pm_P k tgt L st A Q) (kf : x = 0 → pm_P k (pc + 3) L st A Q) : pm_P k pc L (.int (nI x) :: st) A Q := by
  have e : (0 : Int32) = nI 0 := rfl
  refine pm_if_gt hd ht (fun c => kt ?_) (fun c => kf ?_) <;> rw [e] at c <;> simp only [nI_inj hx (show 0 < 2 ^ 31 by decide), nI_lt_iff (show 0 < 2 ^ 31 by decide) hx, nI_le_iff hx (show 0 < 2 ^ 31 by decide)] at c <;> omega
theorem pm_if_leN {x : Nat} {off : Int} {tgt : Nat} (hd : decode (pm_c k) pc = .ok (.ifCond .le off, 3)) (ht : (pc : Int) + off = (tgt : Int)) (hx : x < 2 ^ 31) (kt : x = 0 → pm_P k tgt L st A Q) (kf : 0 < x → pm_P k (pc + 3) L st A Q) : pm_P k pc L (.int (nI x) :: st) A Q := by
  have e : (0 : Int32) = nI 0 := rfl
  refine pm_if_le hd ht (fun c => kt ?_) (fun c => kf ?_) <;> rw [e] at c <;> simp only [nI_inj hx (show 0 < 2 ^ 31 by decide), nI_lt_iff (show 0 < 2 ^ 31 by decide) hx, nI_le_iff hx (show 0 < 2 ^ 31 by decide)] at c <;> omega
theorem pm_if_ltN {x : Nat} {off : Int} {tgt : Nat} (hd : decode (pm_c k) pc = .ok (.ifCond .lt off, 3)) (hx : x < 2 ^ 31) (kf : pm_P k (pc + 3) L st A Q) (ht : ∃ tgt : Nat, (pc : Int) + off = (tgt : Int)) : pm_P k pc L (.int (nI x) :: st) A Q := by
  obtain ⟨t, ht⟩ := ht
  exact pm_if_lt hd ht (fun c => absurd c (nI_pos hx)) (fun _ => kf)
theorem pm_if_geN {x : Nat} {off : Int} {tgt : Nat} (hd : decode (pm_c k) pc = .ok (.ifCond .ge off, 3)) (ht : (pc : Int) + off = (tgt : Int)) (hx : x < 2 ^ 31) (kt : pm_P k tgt L st A Q) : pm_P k pc L (.int (nI x) :: st) A Q :=
  pm_if_ge hd ht (fun _ => kt) (fun c => absurd (nI_pos' hx) c)
theorem pm_if_eqB {b : Bool} {off : Int} {tgt : Nat} (hd : decode (pm_c k) pc = .ok (.ifCond .eq off, 3)) (ht : (pc : Int) + off = (tgt : Int)) (kt : b = false → pm_P k tgt L st A Q) (kf : b = true → pm_P k (pc + 3) L st A Q) : pm_P k pc L (.int (b2i b) :: st) A Q := by
  refine pm_if_eq hd ht (fun c => kt ?_) (fun c => kf ?_)
  · cases b
    · rfl
    · exact absurd c (by decide)
  · cases b
    · exact absurd rfl c
    · rfl
theorem pm_if_neB {b : Bool} {off : Int} {tgt : Nat} (hd : decode (pm_c k) pc = .ok (.ifCond .ne off, 3)) (ht : (pc : Int) + off = (tgt : Int)) (kt : b = true → pm_P k tgt L st A Q) (kf : b = false → pm_P k (pc + 3) L st A Q) : pm_P k pc L (.int (b2i b) :: st) A Q := by
  refine pm_if_ne hd ht (fun c => kt ?_) (fun c => kf ?_)
  · cases b
    · exact absurd rfl c
    · rfl
  · cases b
    · rfl
    · exact absurd c (by decide)
theorem pm_getE {idx ci j b : Nat} {sl : List (Option Nat)} {v : Int32} (hd : decode (pm_c k) pc = .ok (.getfield idx, 3)) (hl : pm_LF (pm_o k) idx ci j) (hs : (pm_sh (pm_wo k))[b]? = some (.inl (ci, sl))) (hj : sl[j]? = some none) (hv : A b j = v) (h : pm_P k (pc + 3) L (.int v :: st) A Q) : pm_P k pc L (.ref b :: st) A Q := pm_getI hd hl hs hj (by rw [hv]; exact h)
end PMN
