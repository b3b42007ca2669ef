/-! THE LAW'S BODY. lz_P: from here, with i = nI iN ints read, with this stack (cell 0 the script, 1 the class's object, 2 the reference's) and these two memories, the law comes to its end with true. -/
def R_law : String := "GeodesicCutterLaw"
def lw_Q (_ : Array Value) (s : State) (o : Outcome) (t : State) : Prop := o = .returned (some (.int 1)) ∧ Framed s o t [] 600000 7302250
def lw_Z (below : List Frame) (a : Array Value) (s : State) : State → Prop := fun t => ∃ o, t.status = .running ∧ Ended t below o ∧ lw_Q a s o t
/-- the law's own end, with 1 on the stack -/
theorem lw_ret {p : Program} {l : Launch} {e : Env} {s : State} {m : MethodId} {below : List Frame} {meth : Method} {c : Code} {b : Nat} (hx : p.tables.exec = Jvm.exec) (hb : c.code = code) (hr : meth.sig.returnType = ret) (hlocks : meth.locks = false) {pc : Nat} {H : Heap} {ls : Array Slot} (hdg : decode code pc = .ok (.ireturn, 1)) : W p l e room_1 s m #[Value.ref b] below meth c H [] 600000 7302250 (lw_Z below #[Value.ref b] s) (F0 m pc ls [.int 1]) := by
  intro T hT X
  obtain ⟨fs, hret, hrun, hended, hW, hframe⟩ := X.leave (v := some (.int 1)) (hlocks := hlocks) (fun h => by rw [hr] at h; cases h)
  have hmeth' : T.vm.method? m = some meth := X.method'
  refine ⟨T.setFrames fs, ?_, .returned (some (.int 1)), hrun, hended, rfl, ⟨_, rfl⟩, hW, hframe⟩
  jvm_step X.here [X.here.top, hx, hb, hdg, hmeth', hr, ret, narrow_b1]
  (try refine ⟨rfl, ?_⟩); (try refine ⟨rfl, ?_⟩)
  first | (intro acts; rw [hret _ acts rfl rfl rfl]) | rw [hret _ _ rfl rfl rfl]
  exact Steps.refl _
def lw_At (p : Program) (s : State) (m : MethodId) (meth : Method) (c : Code) (b L : Nat) (xs : Nat → Int32) : Prop :=
  p.tables.exec = Jvm.exec ∧ c.code = code ∧ meth.sig.returnType = ret ∧ c.maxLocals = 4 ∧ s.vm.findClass R_law = some m.cls ∧ (∀ w ∈ lw_tbl, w.before #[Value.ref b] s = true) ∧ va_X b L xs s s.heap ∧ b < s.heap.size ∧ meth.locks = false ∧ (Jvm.Cond.and given_1 narrow_1).before #[Value.ref b] s = true
def lz_C (L : Nat) (xs : Nat → Int32) (p : Program) (s : State) (m : MethodId) (meth : Method) (c : Code) (b : Nat) (ad0 ad1 : Nat → Nat) (D : va_G) (tyc : Nat → ClassId) : Prop :=
  lw_At p s m meth c b L xs ∧ L ≤ 2048 ∧ va_K D vwCl (pm_ts tyc) s ∧ pm_inj 0 ad0 ∧ pm_inj 1 ad1 ∧ (∀ q, pm_A 0 ad0 q → s.heap.size ≤ q) ∧ (∀ q, pm_A 1 ad1 q → s.heap.size ≤ q) ∧ (∀ q, pm_A 0 ad0 q → ¬ pm_A 1 ad1 q)
def lz_ad (b a0 a1 : Nat) : Nat → Nat := fun j => if j = 0 then b else if j = 1 then a0 else a1
def lz_P (L : Nat) (xs : Nat → Int32) (pc iN : Nat) (st : List Value) (A B : Mem) : Prop :=
  ∀ (p : Program) (l : Launch) (e : Env) (s : State) (m : MethodId) (below : List Frame) (meth : Method) (c : Code) (b : Nat) (ad0 ad1 : Nat → Nat) (D : va_G) (tyc : Nat → ClassId) (H : Heap) (locs : List Loc) (ls : Array Slot),
    lz_C L xs p s m meth c b ad0 ad1 D tyc → va_P D vwCl (pm_w 0 ad0 tyc A) H → va_P D vwCl (pm_w 1 ad1 tyc B) H → va_S (fun q : Nat => s.heap.size ≤ q) s.heap H locs → lv_has ls 4 [(0, .ref b), (1, .ref (ad0 0)), (2, .ref (ad1 0)), (3, .int (nI iN))] →
    W p l e room_1 s m #[Value.ref b] below meth c H locs 72 43077 (lw_Z below #[Value.ref b] s) (F0 m pc ls (st.map (tv (lz_ad b (ad0 0) (ad1 0)))))
theorem lz_tvs (ad : Nat → Nat) (vs : List Int32) : (vs.map Value.int).map (tv ad) = vs.map Value.int := by
  rw [List.map_map]
  rfl
theorem lz_cats (vs : List Int32) : (vs.map Value.int).all (fun v => v.category == 1) = true := by
  rw [List.all_map, List.all_eq_true]
  intro x _
  rfl
theorem lz_mem {w : Nat} {ad : Nat → Nat} {tyc : Nat → ClassId} {A : Mem} (h : pm_inj w ad) {k : Nat} {q : Nat × va_E} (hk : (pm_w w ad tyc A)[k]? = some q) : pm_A w ad q.1 := (pm_w_D h).2 k q hk
theorem lz_and (x : Int32) : ∃ n, n < 32 ∧ x &&& 31 = nI n := by
  refine ⟨(x &&& 31).toBitVec.toNat, ?_, ?_⟩
  · have h : (x &&& 31).toBitVec = x.toBitVec &&& 31#32 := rfl
    rw [h, BitVec.toNat_and]
    exact Nat.lt_of_le_of_lt Nat.and_le_right (by decide)
  · apply Int32.toBitVec_inj.mp
    show _ = BitVec.ofNat 32 _
    simp
theorem lz_cmp {L i : Nat} (hL : L ≤ 2048) (hi : i < 2 ^ 31) : (Int32.ofNat L - 4 < nI i) ↔ L < i + 4 := by
  rcases Nat.lt_or_ge L 4 with h | h
  · rw [Int32.lt_iff_toInt_lt, nI_toInt hi]
    rcases (show L = 0 ∨ L = 1 ∨ L = 2 ∨ L = 3 by omega) with rfl | rfl | rfl | rfl
    · rw [show (Int32.ofNat 0 - 4).toInt = -4 by decide]; omega
    · rw [show (Int32.ofNat 1 - 4).toInt = -3 by decide]; omega
    · rw [show (Int32.ofNat 2 - 4).toInt = -2 by decide]; omega
    · rw [show (Int32.ofNat 3 - 4).toInt = -1 by decide]; omega
  · rw [show Int32.ofNat L - 4 = nI (L - 4) from nI_sub (b := 4) h, nI_lt_iff (by omega) hi]
    omega
section LZ
variable {L : Nat} {xs : Nat → Int32} {pc iN : Nat} {st : List Value} {A B : Mem}
theorem lz_a0 (hd : decode code pc = .ok (.aload_n 0, 1)) (h : lz_P L xs (pc + 1) iN (.ref 0 :: st) A B) : lz_P L xs pc iN st A B := by
  intro p l e s m below meth c b ad0 ad1 D tyc H locs ls C hP0 hP1 hS hL
  exact lv_aload_n C.1.1 C.1.2.1 hd rfl (lv_at hL 0 rfl) (h p l e s m below meth c b ad0 ad1 D tyc H locs ls C hP0 hP1 hS hL)
theorem lz_a1 (hd : decode code pc = .ok (.aload_n 1, 1)) (h : lz_P L xs (pc + 1) iN (.ref 1 :: st) A B) : lz_P L xs pc iN st A B := by
  intro p l e s m below meth c b ad0 ad1 D tyc H locs ls C hP0 hP1 hS hL
  exact lv_aload_n C.1.1 C.1.2.1 hd rfl (lv_at hL 1 rfl) (h p l e s m below meth c b ad0 ad1 D tyc H locs ls C hP0 hP1 hS hL)
theorem lz_a2 (hd : decode code pc = .ok (.aload_n 2, 1)) (h : lz_P L xs (pc + 1) iN (.ref 2 :: st) A B) : lz_P L xs pc iN st A B := by
  intro p l e s m below meth c b ad0 ad1 D tyc H locs ls C hP0 hP1 hS hL
  exact lv_aload_n C.1.1 C.1.2.1 hd rfl (lv_at hL 2 rfl) (h p l e s m below meth c b ad0 ad1 D tyc H locs ls C hP0 hP1 hS hL)
theorem lz_i3 (hd : decode code pc = .ok (.iload_n 3, 1)) (h : lz_P L xs (pc + 1) iN (.int (nI iN) :: st) A B) : lz_P L xs pc iN st A B := by
  intro p l e s m below meth c b ad0 ad1 D tyc H locs ls C hP0 hP1 hS hL
  exact lv_iload_n C.1.1 C.1.2.1 hd rfl (lv_at hL 3 rfl) (h p l e s m below meth c b ad0 ad1 D tyc H locs ls C hP0 hP1 hS hL)
theorem lz_ic {n : Int} {v : Int32} (hd : decode code pc = .ok (.iconst n, 1)) (hv : Int32.ofInt n = v) (h : lz_P L xs (pc + 1) iN (.int v :: st) A B) : lz_P L xs pc iN st A B := by
  intro p l e s m below meth c b ad0 ad1 D tyc H locs ls C hP0 hP1 hS hL
  exact lv_iconst C.1.1 C.1.2.1 hd hv (h p l e s m below meth c b ad0 ad1 D tyc H locs ls C hP0 hP1 hS hL)
theorem lz_bi {n : Int} {v : Int32} (hd : decode code pc = .ok (.bipush n, 2)) (hv : (Int8.ofInt n).toInt32 = v) (h : lz_P L xs (pc + 2) iN (.int v :: st) A B) : lz_P L xs pc iN st A B := by
  intro p l e s m below meth c b ad0 ad1 D tyc H locs ls C hP0 hP1 hS hL
  exact lv_bipush C.1.1 C.1.2.1 hd hv (h p l e s m below meth c b ad0 ad1 D tyc H locs ls C hP0 hP1 hS hL)
theorem lz_add {x y : Int32} (hd : decode code pc = .ok (.iadd, 1)) (h : lz_P L xs (pc + 1) iN (.int (x + y) :: st) A B) : lz_P L xs pc iN (.int y :: .int x :: st) A B := by
  intro p l e s m below meth c b ad0 ad1 D tyc H locs ls C hP0 hP1 hS hL
  exact lv_iadd C.1.1 C.1.2.1 hd (h p l e s m below meth c b ad0 ad1 D tyc H locs ls C hP0 hP1 hS hL)
theorem lz_sub {x y : Int32} (hd : decode code pc = .ok (.isub, 1)) (h : lz_P L xs (pc + 1) iN (.int (x - y) :: st) A B) : lz_P L xs pc iN (.int y :: .int x :: st) A B := by
  intro p l e s m below meth c b ad0 ad1 D tyc H locs ls C hP0 hP1 hS hL
  exact lv_isub C.1.1 C.1.2.1 hd (h p l e s m below meth c b ad0 ad1 D tyc H locs ls C hP0 hP1 hS hL)
theorem lz_iand {x y : Int32} (hd : decode code pc = .ok (.iand, 1)) (h : lz_P L xs (pc + 1) iN (.int (x &&& y) :: st) A B) : lz_P L xs pc iN (.int y :: .int x :: st) A B := by
  intro p l e s m below meth c b ad0 ad1 D tyc H locs ls C hP0 hP1 hS hL
  exact lv_iand C.1.1 C.1.2.1 hd (h p l e s m below meth c b ad0 ad1 D tyc H locs ls C hP0 hP1 hS hL)
theorem lz_len (hd : decode code pc = .ok (.arraylength, 1)) (h : lz_P L xs (pc + 1) iN (.int (Int32.ofNat L) :: st) A B) : lz_P L xs pc iN (.ref 0 :: st) A B := by
  intro p l e s m below meth c b ad0 ad1 D tyc H locs ls C hP0 hP1 hS hL
  exact va_slen C.1.1 C.1.2.1 C.1.2.2.2.2.2.2.1 C.1.2.2.2.2.2.2.2.1 (Nat.not_le.mpr C.1.2.2.2.2.2.2.2.1) hS hd (h p l e s m below meth c b ad0 ad1 D tyc H locs ls C hP0 hP1 hS hL)
theorem lz_ld {j : Nat} (hd : decode code pc = .ok (.iaload, 1)) (hj : j < L) (hL9 : L ≤ 2048) (h : lz_P L xs (pc + 1) iN (.int (xs j) :: st) A B) : lz_P L xs pc iN (.int (nI j) :: .ref 0 :: st) A B := by
  intro p l e s m below meth c b ad0 ad1 D tyc H locs ls C hP0 hP1 hS hL
  refine va_sld C.1.1 C.1.2.1 C.1.2.2.2.2.2.2.1 C.1.2.2.2.2.2.2.2.1 (Nat.not_le.mpr C.1.2.2.2.2.2.2.2.1) hS (vp_in_nI hj (by omega)) hd ?_
  rw [nI_clamp (by omega)]
  exact h p l e s m below meth c b ad0 ad1 D tyc H locs ls C hP0 hP1 hS hL
/-- script[i + n] -/
theorem lz_arg (n : Nat) (d0 : decode code pc = .ok (.aload_n 0, 1)) (d1 : decode code (pc + 1) = .ok (.iload_n 3, 1)) (d2 : decode code (pc + 2) = .ok (.iconst (n : Int), 1)) (d3 : decode code (pc + 3) = .ok (.iadd, 1)) (d4 : decode code (pc + 4) = .ok (.iaload, 1)) (hj : iN + n < L) (hL9 : L ≤ 2048) (h : lz_P L xs (pc + 5) iN (.int (xs (iN + n)) :: st) A B) : lz_P L xs pc iN st A B := by
  refine lz_a0 d0 (lz_i3 d1 (lz_ic (v := nI n) d2 rfl (lz_add d3 ?_)))
  rw [nI_add]
  exact lz_ld d4 hj hL9 h
theorem lz_eq {r : Int32} {off : Int} {tgt : Nat} (hd : decode code pc = .ok (.if_icmp .eq off, 3)) (ht : (pc : Int) + off = (tgt : Int)) (h : lz_P L xs tgt iN st A B) : lz_P L xs pc iN (.int r :: .int r :: st) A B := by
  intro p l e s m below meth c b ad0 ad1 D tyc H locs ls C hP0 hP1 hS hL
  exact lv_icmp_eq C.1.1 C.1.2.1 hd ht (fun _ => h p l e s m below meth c b ad0 ad1 D tyc H locs ls C hP0 hP1 hS hL) (fun h9 => absurd rfl h9)
theorem lz_gt {off : Int} {tgt : Nat} (hd : decode code pc = .ok (.if_icmp .gt off, 3)) (ht : (pc : Int) + off = (tgt : Int)) (hL9 : L ≤ 2048) (hi : iN < 2 ^ 31) (kt : L < iN + 4 → lz_P L xs tgt iN st A B) (kf : iN + 4 ≤ L → lz_P L xs (pc + 3) iN st A B) : lz_P L xs pc iN (.int (Int32.ofNat L - 4) :: .int (nI iN) :: st) A B := by
  intro p l e s m below meth c b ad0 ad1 D tyc H locs ls C hP0 hP1 hS hL
  exact lv_icmp_gt C.1.1 C.1.2.1 hd ht (fun h9 => kt ((lz_cmp hL9 hi).mp h9) p l e s m below meth c b ad0 ad1 D tyc H locs ls C hP0 hP1 hS hL) (fun h9 => kf (Nat.le_of_not_lt (fun h8 => h9 ((lz_cmp hL9 hi).mpr h8))) p l e s m below meth c b ad0 ad1 D tyc H locs ls C hP0 hP1 hS hL)
theorem lz_swOut {dflt lo hi : Int} {offs : Array Int} {len : Nat} {x : Int32} {tgt : Nat} (hd : decode code pc = .ok (.tableswitch dflt lo hi offs, len)) (hx : x.toInt < lo ∨ hi < x.toInt) (ht : (pc : Int) + dflt = (tgt : Int)) (h : lz_P L xs tgt iN st A B) : lz_P L xs pc iN (.int x :: st) A B := by
  intro p l e s m below meth c b ad0 ad1 D tyc H locs ls C hP0 hP1 hS hL
  exact lv_tableOut C.1.1 C.1.2.1 hd hx ht (h p l e s m below meth c b ad0 ad1 D tyc H locs ls C hP0 hP1 hS hL)
theorem lz_swIn {dflt lo hi : Int} {offs : Array Int} {len : Nat} {x : Int32} {off : Int} {tgt : Nat} (hd : decode code pc = .ok (.tableswitch dflt lo hi offs, len)) (h1 : ¬ x.toInt < lo) (h2 : ¬ hi < x.toInt) (ho : offs[(x.toInt - lo).toNat]? = some off) (ht : (pc : Int) + off = (tgt : Int)) (h : lz_P L xs tgt iN st A B) : lz_P L xs pc iN (.int x :: st) A B := by
  intro p l e s m below meth c b ad0 ad1 D tyc H locs ls C hP0 hP1 hS hL
  exact lv_tableIn C.1.1 C.1.2.1 hd h1 h2 ho ht (h p l e s m below meth c b ad0 ad1 D tyc H locs ls C hP0 hP1 hS hL)
theorem lz_next {off : Int} {tgt : Nat} (d0 : decode code pc = .ok (.iinc 3 4, 3)) (d1 : decode code (pc + 3) = .ok (.goto off, 3)) (ht : ((pc + 3 : Nat) : Int) + off = (tgt : Int)) (h : lz_P L xs tgt (iN + 4) [] A B) : lz_P L xs pc iN [] A B := by
  intro p l e s m below meth c b ad0 ad1 D tyc H locs ls C hP0 hP1 hS hL
  refine lv_iinc (v := nI (iN + 4)) (k := 3) C.1.1 C.1.2.1 d0 hL rfl (by rw [← nI_add]; rfl) (by decide) rfl (fun ls2 hL2 => ?_)
  exact lv_goto C.1.1 C.1.2.1 d1 ht (h p l e s m below meth c b ad0 ad1 D tyc H locs ls2 C hP0 hP1 hS (lv_sub hL2 [1, 2, 3, 0] rfl))
theorem lz_end (d0 : decode code pc = .ok (.iconst 1, 1)) (d1 : decode code (pc + 1) = .ok (.ireturn, 1)) : lz_P L xs pc iN [] A B := by
  intro p l e s m below meth c b ad0 ad1 D tyc H locs ls C hP0 hP1 hS hL
  refine lv_iconst (v := 1) C.1.1 C.1.2.1 d0 (by decide) ?_
  refine va_forget (fun q hq => hS.2.2 q hq) ?_
  refine W.widen (k := 600000) (n := 7302250) (Nat.le_of_ble_eq_true rfl) (Nat.le_of_ble_eq_true rfl) ?_
  exact lw_ret C.1.1 C.1.2.1 C.1.2.2.1 C.1.2.2.2.2.2.2.2.2.1 d1
theorem lz_good {idx k2 : Nat} (hl : pm_LV 15 idx k2) (hok : pm_ok k2) : GoodIn lw_tbl (wsV R_law idx (pm_y k2).cls (pm_y k2) (pm_ws k2)) := by
  obtain ⟨w1, w2, w3, w4⟩ := hl
  intro w hw9
  have h8 : w ∈ pm_W := by
    rcases List.mem_append.mp hw9 with h9 | h9
    · simp only [List.mem_cons, List.not_mem_nil, or_false] at h9
      rcases h9 with rfl | rfl | rfl | rfl
      · exact w1
      · exact w2
      · exact w3
      · exact hok.2.2.2.1
    · rcases List.mem_cons.mp h9 with rfl | h
      · exact hok.1
      · exact h
  exact ⟨(List.mem_filter.mp h8).1, good_of_word (List.mem_filter.mp h8).2⟩
theorem lz_arity {idx k2 n : Nat} (hl : pm_LV 15 idx k2) (hn : n + 1 = pm_na k2) : (parseMethodDescriptor (pm_y k2).desc).map (fun d => d.parameters.length) = some n := by
  have w4 := hl.2.2.2
  cases hp : parseMethodDescriptor (pm_y k2).desc with
  | none => rw [hp] at w4; cases w4
  | some d =>
    rw [hp] at w4
    have h1 : d.parameters.length + 1 = pm_na k2 := Option.some.inj w4
    show some d.parameters.length = some n
    congr 1
    omega
def lz_room (k2 : Nat) : Prop := (pm_rm k2).frames + 1 ≤ room_1.frames ∧ 8 + (pm_l k2 + 11) + (pm_rm k2).locals ≤ room_1.locals
theorem lz_call0 {k2 idx ci : Nat} {sl : List (Option Nat)} {vs : List Int32} {rest : List Value} {ty : FieldType} {r : vw_C} (hd : decode code pc = .ok (.invokevirtual idx, 3)) (hl : pm_LV 15 idx k2) (hok : pm_ok k2) (hr : pm_r k2 = some ty) (hst : st = (vs.map Value.int).reverse ++ .ref 1 :: rest) (hn : vs.length + 1 = pm_na k2) (hmx : vs.length + 1 ≤ pm_l k2) (hw : pm_wo k2 = 0) (hs : (pm_sh 0)[0]? = some (.inl (ci, sl))) (hci : vwCl[ci]? = some r) (hC : r.1 = (pm_y k2).cls) (hR : lz_room k2) (hc : (rest.map fun v => v.category).sum ≤ 8)
    (h : pm_P k2 0 (pm_ent 0 (.ref 0 :: vs.map Value.int)) [] A (fun r1 A1 => lz_P L xs (pc + 3) iN (.int r1 :: rest) A1 B)) : lz_P L xs pc iN st A B := by
  subst hst
  intro p l e s m below meth c b ad0 ad1 D tyc H locs ls C hP0 hP1 hS hL
  have CC := C
  obtain ⟨⟨hx, hb, hret, hml, hown, hts, hX, hbl, hlocks, hgv⟩, hL9, hK, hi0, hi1, hA0, hA1, hdis⟩ := C
  have hM := pm_met (as := .ref 0 :: vs.map Value.int) hok cls_all h (by simpa using hmx) (by rw [List.all_cons, lz_cats]; rfl) l ad0 D tyc (by rw [hw]; exact hi0)
  rw [pm_Qi_eq hr, hw] at hM
  have cw := cwV (R := room_1) (mc := 0) (ms := 0) (rm := pm_rm k2) vs.length hts (lz_good hl hok) rfl rfl rfl ⟨rfl, hok.2.2.2.2.1, hok.2.2.2.2.2, lz_arity hl hn⟩ hR
  rw [show ((vs.map Value.int).reverse ++ Value.ref 1 :: rest).map (tv (lz_ad b (ad0 0) (ad1 0))) = ((vs.map Value.int).map (tv ad0)).reverse ++ Value.ref (ad0 0) :: rest.map (tv (lz_ad b (ad0 0) (ad1 0))) by rw [List.map_append, List.map_reverse, lz_tvs, lz_tvs]; rfl]
  refine va_calli (va_runV (As := (vs.map Value.int).map (tv ad0)) (rest := rest.map (tv (lz_ad b (ad0 0) (ad1 0)))) ⟨hx, hb, hml, hown, hts⟩ hM cw ⟨pm_blind (as := .ref 0 :: vs.map Value.int), by rw [← hC]; exact va_recv hK hP0 (ci := ci) (q0 := 0) hci (pm_w_get hs), fun U hU hW => ⟨rfl, by rw [hU]; exact hP0, va_K.moved hW.alike hK⟩⟩ rfl (by simp) hL.1 rfl (lv_room (by rw [pm_catsum]; exact hc)) hd ⟨Nat.le_of_ble_eq_true rfl, Nat.le_of_ble_eq_true rfl⟩) hS (fun q _ h => hA0 q h) hA0 (fun r1 A2 t H1 locs1 ht hvm hq hB hz hk1 hS1 => ?_)
  obtain ⟨hB1, hB2⟩ := hB
  rw [ht] at hB1
  exact hq p l e s m below meth c b ad0 ad1 D tyc H1 locs1 ls CC hB1 (hP1.kept (fun k q hk => hk1 q.1 (hP1 k q hk).lt (fun h9 => hdis q.1 h9 (lz_mem hi1 hk)))) hS1 hL
theorem lz_call1 {k2 idx ci : Nat} {sl : List (Option Nat)} {vs : List Int32} {rest : List Value} {ty : FieldType} {r : vw_C} (hd : decode code pc = .ok (.invokevirtual idx, 3)) (hl : pm_LV 15 idx k2) (hok : pm_ok k2) (hr : pm_r k2 = some ty) (hst : st = (vs.map Value.int).reverse ++ .ref 2 :: rest) (hn : vs.length + 1 = pm_na k2) (hmx : vs.length + 1 ≤ pm_l k2) (hw : pm_wo k2 = 1) (hs : (pm_sh 1)[0]? = some (.inl (ci, sl))) (hci : vwCl[ci]? = some r) (hC : r.1 = (pm_y k2).cls) (hR : lz_room k2) (hc : (rest.map fun v => v.category).sum ≤ 8)
    (h : pm_P k2 0 (pm_ent 0 (.ref 0 :: vs.map Value.int)) [] B (fun r1 B1 => lz_P L xs (pc + 3) iN (.int r1 :: rest) A B1)) : lz_P L xs pc iN st A B := by
  subst hst
  intro p l e s m below meth c b ad0 ad1 D tyc H locs ls C hP0 hP1 hS hL
  have CC := C
  obtain ⟨⟨hx, hb, hret, hml, hown, hts, hX, hbl, hlocks, hgv⟩, hL9, hK, hi0, hi1, hA0, hA1, hdis⟩ := C
  have hM := pm_met (as := .ref 0 :: vs.map Value.int) hok cls_all h (by simpa using hmx) (by rw [List.all_cons, lz_cats]; rfl) l ad1 D tyc (by rw [hw]; exact hi1)
  rw [pm_Qi_eq hr, hw] at hM
  have cw := cwV (R := room_1) (mc := 0) (ms := 0) (rm := pm_rm k2) vs.length hts (lz_good hl hok) rfl rfl rfl ⟨rfl, hok.2.2.2.2.1, hok.2.2.2.2.2, lz_arity hl hn⟩ hR
  rw [show ((vs.map Value.int).reverse ++ Value.ref 2 :: rest).map (tv (lz_ad b (ad0 0) (ad1 0))) = ((vs.map Value.int).map (tv ad1)).reverse ++ Value.ref (ad1 0) :: rest.map (tv (lz_ad b (ad0 0) (ad1 0))) by rw [List.map_append, List.map_reverse, lz_tvs, lz_tvs]; rfl]
  refine va_calli (va_runV (As := (vs.map Value.int).map (tv ad1)) (rest := rest.map (tv (lz_ad b (ad0 0) (ad1 0)))) ⟨hx, hb, hml, hown, hts⟩ hM cw ⟨pm_blind (as := .ref 0 :: vs.map Value.int), by rw [← hC]; exact va_recv hK hP1 (ci := ci) (q0 := 0) hci (pm_w_get hs), fun U hU hW => ⟨rfl, by rw [hU]; exact hP1, va_K.moved hW.alike hK⟩⟩ rfl (by simp) hL.1 rfl (lv_room (by rw [pm_catsum]; exact hc)) hd ⟨Nat.le_of_ble_eq_true rfl, Nat.le_of_ble_eq_true rfl⟩) hS (fun q _ h => hA1 q h) hA1 (fun r1 B2 t H1 locs1 ht hvm hq hB hz hk1 hS1 => ?_)
  obtain ⟨hB1, hB2⟩ := hB
  rw [ht] at hB1
  exact hq p l e s m below meth c b ad0 ad1 D tyc H1 locs1 ls CC (hP0.kept (fun k q hk => hk1 q.1 (hP0 k q hk).lt (fun h9 => hdis q.1 (lz_mem hi0 hk) h9))) hB1 hS1 hL
end LZ
