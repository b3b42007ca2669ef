/-! THE LAW'S BODY. lz_P: from here, with these locals, this stack (cell 0 the script, 1 the object) and this memory, the law comes to its end with true. -/
def R_law : String := "GeodesicCutterLaw"
def lw_Q (_ : Array Value) (s : State) (o : Outcome) (t : State) : Prop := o = .returned (some (.int 1)) ∧ Framed s o t [] 600000 7302250
def lw_Z (below : List Frame) (a : Array Value) (s : State) : State → Prop := fun t => ∃ o, t.status = .running ∧ Ended t below o ∧ lw_Q a s o t
/-- the law's own end, with 1 on the stack, nothing written that was there before, its room as the claim has it -/
theorem lw_ret {p : Program} {l : Launch} {e : Env} {s : State} {m : MethodId} {below : List Frame} {meth : Method} {c : Code} {b : Nat} (hx : p.tables.exec = Jvm.exec) (hb : c.code = code) (hr : meth.sig.returnType = ret) (hlocks : meth.locks = false) {pc : Nat} {H : Heap} {ls : Array Slot} (hdg : decode code pc = .ok (.ireturn, 1)) : W p l e room_1 s m #[Value.ref b] below meth c H [] 600000 7302250 (lw_Z below #[Value.ref b] s) (F0 m pc ls [.int 1]) := by
  intro T hT X
  obtain ⟨fs, hret, hrun, hended, hW, hframe⟩ := X.leave (v := some (.int 1)) (hlocks := hlocks) (fun h => by rw [hr] at h; cases h)
  have hmeth' : T.vm.method? m = some meth := X.method'
  refine ⟨T.setFrames fs, ?_, .returned (some (.int 1)), hrun, hended, rfl, ⟨_, rfl⟩, hW, hframe⟩
  jvm_step X.here [X.here.top, hx, hb, hdg, hmeth', hr, ret, narrow_b1]
  (try refine ⟨rfl, ?_⟩); (try refine ⟨rfl, ?_⟩)
  first | (intro acts; rw [hret _ acts rfl rfl rfl]) | rw [hret _ _ rfl rfl rfl]
  exact Steps.refl _
/-- what holds at the law's entry: the machine, the code, the tables' words (any of lw_tbl by 'hts w (by decide +kernel)'), the script of L ints xs at the cell b, what the Statement gives of the start (any of its parts by flat_of_before) -/
def lw_At (p : Program) (s : State) (m : MethodId) (meth : Method) (c : Code) (b L : Nat) (xs : Nat → Int32) : Prop :=
  p.tables.exec = Jvm.exec ∧ c.code = code ∧ meth.sig.returnType = ret ∧ c.maxLocals = 14 ∧ s.vm.findClass R_law = some m.cls ∧ (∀ w ∈ lw_tbl, w.before #[Value.ref b] s = true) ∧ va_X b L xs s s.heap ∧ b < s.heap.size ∧ meth.locks = false ∧ (Jvm.Cond.and given_1 narrow_1).before #[Value.ref b] s = true
def lz_C (N : Nat) (xs : Nat → Int32) (p : Program) (s : State) (m : MethodId) (meth : Method) (c : Code) (b : Nat) (ad : Nat → Nat) (D : va_G) (tyc : Nat → ClassId) : Prop :=
  lw_At p s m meth c b N xs ∧ N ≤ 260 ∧ va_K D vwCl (pm_ts tyc) s ∧ pm_inj 0 ad ∧ (∀ q, pm_A 0 ad q → s.heap.size ≤ q)
def lz_ad (b a0 : Nat) : Nat → Nat := fun j => if j = 0 then b else a0
def lz_P (N : Nat) (xs : Nat → Int32) (pc : Nat) (L : Lcs) (st : List Value) (A : Mem) : Prop :=
  ∀ (p : Program) (l : Launch) (e : Env) (s : State) (m : MethodId) (below : List Frame) (meth : Method) (c : Code) (b : Nat) (ad : Nat → Nat) (D : va_G) (tyc : Nat → ClassId) (H : Heap) (locs : List Loc) (ls : Array Slot),
    lz_C N xs p s m meth c b ad D tyc → va_P D vwCl (pm_w 0 ad tyc A) H → va_S (fun q : Nat => s.heap.size ≤ q) s.heap H locs → lv_has ls 14 (L.map (fun q => (q.1, tv (lz_ad b (ad 0)) q.2))) →
    W p l e room_1 s m #[Value.ref b] below meth c H locs 52 12822 (lw_Z below #[Value.ref b] s) (F0 m pc ls (st.map (tv (lz_ad b (ad 0)))))
theorem lz_tvs (ad : Nat → Nat) (vs : List Int32) : (vs.map Value.int).map (tv ad) = vs.map Value.int := by
  rw [List.map_map]
  rfl
theorem lz_cats (vs : List Int32) : (vs.map Value.int).all (fun v => v.category == 1) = true := by
  rw [List.all_map, List.all_eq_true]
  intro x _
  rfl
theorem lz_goodV {idx k2 : Nat} (hl : pm_LV 15 idx k2) (hok : pm_ok k2) : GoodIn lw_tbl (wsV R_law idx (pm_y k2).cls (pm_y k2) (pm_ws k2)) := by
  obtain ⟨w1, w2, w3, w4⟩ := hl
  intro w hw9
  have h8 : w ∈ pm_W := by
    rcases List.mem_append.mp hw9 with h9 | h9
    · simp only [List.mem_cons, List.not_mem_nil, or_false] at h9
      rcases h9 with rfl | rfl | rfl | rfl
      · exact w1
      · exact w2
      · exact w3
      · exact hok.2.2.2.1
    · rcases List.mem_cons.mp h9 with rfl | h
      · exact hok.1
      · exact h
  exact ⟨(List.mem_filter.mp h8).1, good_of_word (List.mem_filter.mp h8).2⟩
theorem lz_goodS {idx k2 : Nat} (hl : pm_LS 15 idx k2) (hok : pm_ok k2) : GoodIn lw_tbl (va_wsS R_law idx (pm_y k2) (pm_ws k2)) := by
  obtain ⟨w1, w2, w3⟩ := hl
  intro w hw9
  have h8 : w ∈ pm_W := by
    rcases List.mem_append.mp hw9 with h9 | h9
    · simp only [List.mem_cons, List.not_mem_nil, or_false] at h9
      rcases h9 with rfl | rfl | rfl
      · exact w1
      · exact w2
      · exact hok.2.2.2.1
    · rcases List.mem_cons.mp h9 with rfl | h
      · exact hok.1
      · exact h
  exact ⟨(List.mem_filter.mp h8).1, good_of_word (List.mem_filter.mp h8).2⟩
theorem lz_arity {idx k2 n : Nat} (hl : pm_LV 15 idx k2) (hn : n + 1 = pm_na k2) : (parseMethodDescriptor (pm_y k2).desc).map (fun d => d.parameters.length) = some n := by
  have w4 := hl.2.2.2
  cases hp : parseMethodDescriptor (pm_y k2).desc with
  | none => rw [hp] at w4; cases w4
  | some d =>
    rw [hp] at w4
    have h1 : d.parameters.length + 1 = pm_na k2 := Option.some.inj w4
    show some d.parameters.length = some n
    congr 1
    omega
def lz_room (k2 : Nat) : Prop := (pm_rm k2).frames + 1 ≤ room_1.frames ∧ 8 + (pm_l k2 + 11) + (pm_rm k2).locals ≤ room_1.locals
section LZ
variable {N : Nat} {xs : Nat → Int32} {pc : Nat} {L : Lcs} {st : List Value} {A : Mem}
theorem lz_iconst {n : Int} {v : Int32} (hd : decode code pc = .ok (.iconst n, 1)) (hv : Int32.ofInt n = v) (h : lz_P N xs (pc + 1) L (.int v :: st) A) : lz_P N xs pc L st A := by
  intro p l e s m below meth c b ad D tyc H locs ls C hP hS hL
  exact lv_iconst C.1.1 C.1.2.1 hd hv (h p l e s m below meth c b ad D tyc H locs ls C hP hS hL)
theorem lz_bipush {n : Int} {v : Int32} (hd : decode code pc = .ok (.bipush n, 2)) (hv : (Int8.ofInt n).toInt32 = v) (h : lz_P N xs (pc + 2) L (.int v :: st) A) : lz_P N xs pc L st A := by
  intro p l e s m below meth c b ad D tyc H locs ls C hP hS hL
  exact lv_bipush C.1.1 C.1.2.1 hd hv (h p l e s m below meth c b ad D tyc H locs ls C hP hS hL)
theorem lz_aload_n {j : Fin 4} {i : Nat} {x : Nat} (hd : decode code pc = .ok (.aload_n j, 1)) (hi : (j : Nat) = i) (hl : pm_g L i = some (.ref x)) (h : lz_P N xs (pc + 1) L (.ref x :: st) A) : lz_P N xs pc L st A := by
  intro p l e s m below meth c b ad D tyc H locs ls C hP hS hL
  exact lv_aload_n C.1.1 C.1.2.1 hd hi (pm_read hL hl) (h p l e s m below meth c b ad D tyc H locs ls C hP hS hL)
theorem lz_iload_n {j : Fin 4} {i : Nat} {x : Int32} (hd : decode code pc = .ok (.iload_n j, 1)) (hi : (j : Nat) = i) (hl : pm_g L i = some (.int x)) (h : lz_P N xs (pc + 1) L (.int x :: st) A) : lz_P N xs pc L st A := by
  intro p l e s m below meth c b ad D tyc H locs ls C hP hS hL
  exact lv_iload_n C.1.1 C.1.2.1 hd hi (pm_read hL hl) (h p l e s m below meth c b ad D tyc H locs ls C hP hS hL)
theorem lz_iload {i : Nat} {x : Int32} (hd : decode code pc = .ok (.iload i, 2)) (hl : pm_g L i = some (.int x)) (h : lz_P N xs (pc + 2) L (.int x :: st) A) : lz_P N xs pc L st A := by
  intro p l e s m below meth c b ad D tyc H locs ls C hP hS hL
  exact lv_iload C.1.1 C.1.2.1 hd (pm_read hL hl) (h p l e s m below meth c b ad D tyc H locs ls C hP hS hL)
theorem lz_istore_n {j : Fin 4} {i : Nat} {x : Int32} {L2 : Lcs} (hd : decode code pc = .ok (.istore_n j, 1)) (hi : (j : Nat) = i) (hn : i < 14) (hs : pm_s1 L i (.int x) = L2) (h : lz_P N xs (pc + 1) L2 st A) : lz_P N xs pc L (.int x :: st) A := by
  intro p l e s m below meth c b ad D tyc H locs ls C hP hS hL
  subst hs
  exact lv_istore_n C.1.1 C.1.2.1 hd hi hL hn rfl (fun ls2 hL2 => (h p l e s m below meth c b ad D tyc H locs ls2 C hP hS (pm_st1 hL2)))
theorem lz_istore {i : Nat} {x : Int32} {L2 : Lcs} (hd : decode code pc = .ok (.istore i, 2)) (hn : i < 14) (hs : pm_s1 L i (.int x) = L2) (h : lz_P N xs (pc + 2) L2 st A) : lz_P N xs pc L (.int x :: st) A := by
  intro p l e s m below meth c b ad D tyc H locs ls C hP hS hL
  subst hs
  exact lv_istore C.1.1 C.1.2.1 hd hL hn rfl (fun ls2 hL2 => (h p l e s m below meth c b ad D tyc H locs ls2 C hP hS (pm_st1 hL2)))
theorem lz_astore_n {j : Fin 4} {i : Nat} {x : Nat} {L2 : Lcs} (hd : decode code pc = .ok (.astore_n j, 1)) (hi : (j : Nat) = i) (hn : i < 14) (hs : pm_s1 L i (.ref x) = L2) (h : lz_P N xs (pc + 1) L2 st A) : lz_P N xs pc L (.ref x :: st) A := by
  intro p l e s m below meth c b ad D tyc H locs ls C hP hS hL
  subst hs
  exact lv_astore_n C.1.1 C.1.2.1 hd hi hL hn rfl (fun ls2 hL2 => (h p l e s m below meth c b ad D tyc H locs ls2 C hP hS (pm_st1 hL2)))
theorem lz_lload {i : Nat} {x : Int64} (hd : decode code pc = .ok (.lload i, 2)) (hl : pm_g L i = some (.long x)) (h : lz_P N xs (pc + 2) L (.long x :: st) A) : lz_P N xs pc L st A := by
  intro p l e s m below meth c b ad D tyc H locs ls C hP hS hL
  exact lv_lload C.1.1 C.1.2.1 hd (pm_read hL hl) (h p l e s m below meth c b ad D tyc H locs ls C hP hS hL)
theorem lz_lstore {i : Nat} {x : Int64} {L2 : Lcs} (hd : decode code pc = .ok (.lstore i, 2)) (hn : i + 1 < 14) (hs : pm_s2 L i (.long x) = L2) (h : lz_P N xs (pc + 2) L2 st A) : lz_P N xs pc L (.long x :: st) A := by
  intro p l e s m below meth c b ad D tyc H locs ls C hP hS hL
  subst hs
  exact lv_lstore C.1.1 C.1.2.1 hd hL hn rfl (fun ls2 hL2 => (h p l e s m below meth c b ad D tyc H locs ls2 C hP hS (pm_st2 hL2)))
theorem lz_iinc {i : Nat} {n : Int} {x v : Int32} {L2 : Lcs} (hd : decode code pc = .ok (.iinc i n, 3)) (hl : pm_g L i = some (.int x)) (hv : x + Int32.ofInt n = v) (hn : i < 14) (hs : pm_s1 L i (.int v) = L2) (h : lz_P N xs (pc + 3) L2 st A) : lz_P N xs pc L st A := by
  intro p l e s m below meth c b ad D tyc H locs ls C hP hS hL
  subst hs
  have hm : (i, tv (lz_ad b (ad 0)) (.int x)) ∈ L.map (fun q => (q.1, tv (lz_ad b (ad 0)) q.2)) := List.mem_map.mpr ⟨(i, .int x), pm_g_mem hl, rfl⟩
  obtain ⟨q, hq⟩ := List.getElem?_of_mem hm
  exact lv_iinc C.1.1 C.1.2.1 hd hL (k := q) hq hv hn rfl (fun ls2 hL2 => (h p l e s m below meth c b ad D tyc H locs ls2 C hP hS (pm_st1 hL2)))
theorem lz_iadd {x y : Int32} (hd : decode code pc = .ok (.iadd, 1)) (h : lz_P N xs (pc + 1) L (.int (x + y) :: st) A) : lz_P N xs pc L (.int y :: .int x :: st) A := by
  intro p l e s m below meth c b ad D tyc H locs ls C hP hS hL
  exact lv_iadd C.1.1 C.1.2.1 hd (h p l e s m below meth c b ad D tyc H locs ls C hP hS hL)
theorem lz_isub {x y : Int32} (hd : decode code pc = .ok (.isub, 1)) (h : lz_P N xs (pc + 1) L (.int (x - y) :: st) A) : lz_P N xs pc L (.int y :: .int x :: st) A := by
  intro p l e s m below meth c b ad D tyc H locs ls C hP hS hL
  exact lv_isub C.1.1 C.1.2.1 hd (h p l e s m below meth c b ad D tyc H locs ls C hP hS hL)
theorem lz_imul {x y : Int32} (hd : decode code pc = .ok (.imul, 1)) (h : lz_P N xs (pc + 1) L (.int (x * y) :: st) A) : lz_P N xs pc L (.int y :: .int x :: st) A := by
  intro p l e s m below meth c b ad D tyc H locs ls C hP hS hL
  exact lv_imul C.1.1 C.1.2.1 hd (h p l e s m below meth c b ad D tyc H locs ls C hP hS hL)
theorem lz_iand {x y : Int32} (hd : decode code pc = .ok (.iand, 1)) (h : lz_P N xs (pc + 1) L (.int (x &&& y) :: st) A) : lz_P N xs pc L (.int y :: .int x :: st) A := by
  intro p l e s m below meth c b ad D tyc H locs ls C hP hS hL
  exact lv_iand C.1.1 C.1.2.1 hd (h p l e s m below meth c b ad D tyc H locs ls C hP hS hL)
theorem lz_ineg {x : Int32} (hd : decode code pc = .ok (.ineg, 1)) (h : lz_P N xs (pc + 1) L (.int (-x) :: st) A) : lz_P N xs pc L (.int x :: st) A := by
  intro p l e s m below meth c b ad D tyc H locs ls C hP hS hL
  exact lv_ineg C.1.1 C.1.2.1 hd (h p l e s m below meth c b ad D tyc H locs ls C hP hS hL)
theorem lz_ishr {x y : Int32} (hd : decode code pc = .ok (.ishr, 1)) (h : lz_P N xs (pc + 1) L (.int (x >>> (y &&& 31)) :: st) A) : lz_P N xs pc L (.int y :: .int x :: st) A := by
  intro p l e s m below meth c b ad D tyc H locs ls C hP hS hL
  exact lv_ishr C.1.1 C.1.2.1 hd (h p l e s m below meth c b ad D tyc H locs ls C hP hS hL)
theorem lz_i2l {x : Int32} {v : Int64} (hd : decode code pc = .ok (.i2l, 1)) (hv : x.toInt64 = v) (h : lz_P N xs (pc + 1) L (.long v :: st) A) : lz_P N xs pc L (.int x :: st) A := by
  intro p l e s m below meth c b ad D tyc H locs ls C hP hS hL
  exact lv_i2l C.1.1 C.1.2.1 hd hv (h p l e s m below meth c b ad D tyc H locs ls C hP hS hL)
theorem lz_lmul {x y : Int64} (hd : decode code pc = .ok (.lmul, 1)) (h : lz_P N xs (pc + 1) L (.long (x * y) :: st) A) : lz_P N xs pc L (.long y :: .long x :: st) A := by
  intro p l e s m below meth c b ad D tyc H locs ls C hP hS hL
  exact lv_lmul C.1.1 C.1.2.1 hd (h p l e s m below meth c b ad D tyc H locs ls C hP hS hL)
theorem lz_lcmp {x y : Int64} (hd : decode code pc = .ok (.lcmp, 1)) (h : lz_P N xs (pc + 1) L (.int (lg_cmp x y) :: st) A) : lz_P N xs pc L (.long y :: .long x :: st) A := by
  intro p l e s m below meth c b ad D tyc H locs ls C hP hS hL
  exact W.lcmp C.1.1 C.1.2.1 hd (h p l e s m below meth c b ad D tyc H locs ls C hP hS hL)
theorem lz_goto {off : Int} {tgt : Nat} (hd : decode code pc = .ok (.goto off, 3)) (ht : (pc : Int) + off = (tgt : Int)) (h : lz_P N xs tgt L st A) : lz_P N xs pc L st A := by
  intro p l e s m below meth c b ad D tyc H locs ls C hP hS hL
  exact lv_goto C.1.1 C.1.2.1 hd ht (h p l e s m below meth c b ad D tyc H locs ls C hP hS hL)
theorem lz_if_eq {x : Int32} {off : Int} {tgt : Nat} (hd : decode code pc = .ok (.ifCond .eq off, 3)) (ht : (pc : Int) + off = (tgt : Int)) (kt : x = 0 → lz_P N xs tgt L st A) (kf : ¬ x = 0 → lz_P N xs (pc + 3) L st A) : lz_P N xs pc L (.int x :: st) A := by
  intro p l e s m below meth c b ad D tyc H locs ls C hP hS hL
  exact lv_if_eq C.1.1 C.1.2.1 hd ht (fun q => (kt q p l e s m below meth c b ad D tyc H locs ls C hP hS hL)) (fun q => (kf q p l e s m below meth c b ad D tyc H locs ls C hP hS hL))
theorem lz_if_ne {x : Int32} {off : Int} {tgt : Nat} (hd : decode code pc = .ok (.ifCond .ne off, 3)) (ht : (pc : Int) + off = (tgt : Int)) (kt : ¬ x = 0 → lz_P N xs tgt L st A) (kf : x = 0 → lz_P N xs (pc + 3) L st A) : lz_P N xs pc L (.int x :: st) A := by
  intro p l e s m below meth c b ad D tyc H locs ls C hP hS hL
  exact lv_if_ne C.1.1 C.1.2.1 hd ht (fun q => (kt q p l e s m below meth c b ad D tyc H locs ls C hP hS hL)) (fun q => (kf q p l e s m below meth c b ad D tyc H locs ls C hP hS hL))
theorem lz_if_lt {x : Int32} {off : Int} {tgt : Nat} (hd : decode code pc = .ok (.ifCond .lt off, 3)) (ht : (pc : Int) + off = (tgt : Int)) (kt : x < 0 → lz_P N xs tgt L st A) (kf : ¬ x < 0 → lz_P N xs (pc + 3) L st A) : lz_P N xs pc L (.int x :: st) A := by
  intro p l e s m below meth c b ad D tyc H locs ls C hP hS hL
  exact lv_if_lt C.1.1 C.1.2.1 hd ht (fun q => (kt q p l e s m below meth c b ad D tyc H locs ls C hP hS hL)) (fun q => (kf q p l e s m below meth c b ad D tyc H locs ls C hP hS hL))
theorem lz_if_ge {x : Int32} {off : Int} {tgt : Nat} (hd : decode code pc = .ok (.ifCond .ge off, 3)) (ht : (pc : Int) + off = (tgt : Int)) (kt : 0 ≤ x → lz_P N xs tgt L st A) (kf : ¬ 0 ≤ x → lz_P N xs (pc + 3) L st A) : lz_P N xs pc L (.int x :: st) A := by
  intro p l e s m below meth c b ad D tyc H locs ls C hP hS hL
  exact lv_if_ge C.1.1 C.1.2.1 hd ht (fun q => (kt q p l e s m below meth c b ad D tyc H locs ls C hP hS hL)) (fun q => (kf q p l e s m below meth c b ad D tyc H locs ls C hP hS hL))
theorem lz_if_gt {x : Int32} {off : Int} {tgt : Nat} (hd : decode code pc = .ok (.ifCond .gt off, 3)) (ht : (pc : Int) + off = (tgt : Int)) (kt : 0 < x → lz_P N xs tgt L st A) (kf : ¬ 0 < x → lz_P N xs (pc + 3) L st A) : lz_P N xs pc L (.int x :: st) A := by
  intro p l e s m below meth c b ad D tyc H locs ls C hP hS hL
  exact lv_if_gt C.1.1 C.1.2.1 hd ht (fun q => (kt q p l e s m below meth c b ad D tyc H locs ls C hP hS hL)) (fun q => (kf q p l e s m below meth c b ad D tyc H locs ls C hP hS hL))
theorem lz_if_le {x : Int32} {off : Int} {tgt : Nat} (hd : decode code pc = .ok (.ifCond .le off, 3)) (ht : (pc : Int) + off = (tgt : Int)) (kt : x ≤ 0 → lz_P N xs tgt L st A) (kf : ¬ x ≤ 0 → lz_P N xs (pc + 3) L st A) : lz_P N xs pc L (.int x :: st) A := by
  intro p l e s m below meth c b ad D tyc H locs ls C hP hS hL
  exact lv_if_le C.1.1 C.1.2.1 hd ht (fun q => (kt q p l e s m below meth c b ad D tyc H locs ls C hP hS hL)) (fun q => (kf q p l e s m below meth c b ad D tyc H locs ls C hP hS hL))
theorem lz_icmp_eq {x y : Int32} {off : Int} {tgt : Nat} (hd : decode code pc = .ok (.if_icmp .eq off, 3)) (ht : (pc : Int) + off = (tgt : Int)) (kt : x = y → lz_P N xs tgt L st A) (kf : ¬ x = y → lz_P N xs (pc + 3) L st A) : lz_P N xs pc L (.int y :: .int x :: st) A := by
  intro p l e s m below meth c b ad D tyc H locs ls C hP hS hL
  exact lv_icmp_eq C.1.1 C.1.2.1 hd ht (fun q => (kt q p l e s m below meth c b ad D tyc H locs ls C hP hS hL)) (fun q => (kf q p l e s m below meth c b ad D tyc H locs ls C hP hS hL))
theorem lz_icmp_ne {x y : Int32} {off : Int} {tgt : Nat} (hd : decode code pc = .ok (.if_icmp .ne off, 3)) (ht : (pc : Int) + off = (tgt : Int)) (kt : ¬ x = y → lz_P N xs tgt L st A) (kf : x = y → lz_P N xs (pc + 3) L st A) : lz_P N xs pc L (.int y :: .int x :: st) A := by
  intro p l e s m below meth c b ad D tyc H locs ls C hP hS hL
  exact lv_icmp_ne C.1.1 C.1.2.1 hd ht (fun q => (kt q p l e s m below meth c b ad D tyc H locs ls C hP hS hL)) (fun q => (kf q p l e s m below meth c b ad D tyc H locs ls C hP hS hL))
theorem lz_icmp_lt {x y : Int32} {off : Int} {tgt : Nat} (hd : decode code pc = .ok (.if_icmp .lt off, 3)) (ht : (pc : Int) + off = (tgt : Int)) (kt : x < y → lz_P N xs tgt L st A) (kf : ¬ x < y → lz_P N xs (pc + 3) L st A) : lz_P N xs pc L (.int y :: .int x :: st) A := by
  intro p l e s m below meth c b ad D tyc H locs ls C hP hS hL
  exact lv_icmp_lt C.1.1 C.1.2.1 hd ht (fun q => (kt q p l e s m below meth c b ad D tyc H locs ls C hP hS hL)) (fun q => (kf q p l e s m below meth c b ad D tyc H locs ls C hP hS hL))
theorem lz_icmp_ge {x y : Int32} {off : Int} {tgt : Nat} (hd : decode code pc = .ok (.if_icmp .ge off, 3)) (ht : (pc : Int) + off = (tgt : Int)) (kt : y ≤ x → lz_P N xs tgt L st A) (kf : ¬ y ≤ x → lz_P N xs (pc + 3) L st A) : lz_P N xs pc L (.int y :: .int x :: st) A := by
  intro p l e s m below meth c b ad D tyc H locs ls C hP hS hL
  exact lv_icmp_ge C.1.1 C.1.2.1 hd ht (fun q => (kt q p l e s m below meth c b ad D tyc H locs ls C hP hS hL)) (fun q => (kf q p l e s m below meth c b ad D tyc H locs ls C hP hS hL))
theorem lz_icmp_gt {x y : Int32} {off : Int} {tgt : Nat} (hd : decode code pc = .ok (.if_icmp .gt off, 3)) (ht : (pc : Int) + off = (tgt : Int)) (kt : y < x → lz_P N xs tgt L st A) (kf : ¬ y < x → lz_P N xs (pc + 3) L st A) : lz_P N xs pc L (.int y :: .int x :: st) A := by
  intro p l e s m below meth c b ad D tyc H locs ls C hP hS hL
  exact lv_icmp_gt C.1.1 C.1.2.1 hd ht (fun q => (kt q p l e s m below meth c b ad D tyc H locs ls C hP hS hL)) (fun q => (kf q p l e s m below meth c b ad D tyc H locs ls C hP hS hL))
theorem lz_icmp_le {x y : Int32} {off : Int} {tgt : Nat} (hd : decode code pc = .ok (.if_icmp .le off, 3)) (ht : (pc : Int) + off = (tgt : Int)) (kt : x ≤ y → lz_P N xs tgt L st A) (kf : ¬ x ≤ y → lz_P N xs (pc + 3) L st A) : lz_P N xs pc L (.int y :: .int x :: st) A := by
  intro p l e s m below meth c b ad D tyc H locs ls C hP hS hL
  exact lv_icmp_le C.1.1 C.1.2.1 hd ht (fun q => (kt q p l e s m below meth c b ad D tyc H locs ls C hP hS hL)) (fun q => (kf q p l e s m below meth c b ad D tyc H locs ls C hP hS hL))
theorem lz_sub {L2 : Lcs} (hs : ∀ q ∈ L2, q ∈ L) (h : lz_P N xs pc L2 st A) : lz_P N xs pc L st A := by
  intro p l e s m below meth c b ad D tyc H locs ls C hP hS hL
  refine h p l e s m below meth c b ad D tyc H locs ls C hP hS (pm_has_sub hL fun q hq => ?_)
  obtain ⟨r, hr, rfl⟩ := List.mem_map.mp hq
  exact List.mem_map.mpr ⟨r, hs r hr, rfl⟩
theorem lz_pick {L2 : Lcs} (is : List Nat) (hs : is.filterMap (fun i => L[i]?) = L2) (h : lz_P N xs pc L2 st A) : lz_P N xs pc L st A := by
  refine lz_sub (fun q hq => ?_) h
  subst hs
  obtain ⟨i, -, hi⟩ := List.mem_filterMap.mp hq
  exact List.mem_of_getElem? hi
theorem lz_ladd {x y : Int64} (hd : decode code pc = .ok (.ladd, 1)) (h : lz_P N xs (pc + 1) L (.long (x + y) :: st) A) : lz_P N xs pc L (.long y :: .long x :: st) A := by
  intro p l e s m below meth c b ad D tyc H locs ls C hP hS hL
  exact lv_ladd C.1.1 C.1.2.1 hd (h p l e s m below meth c b ad D tyc H locs ls C hP hS hL)
theorem lz_end (d0 : decode code pc = .ok (.iconst 1, 1)) (d1 : decode code (pc + 1) = .ok (.ireturn, 1)) : lz_P N xs pc L [] A := by
  intro p l e s m below meth c b ad D tyc H locs ls C hP hS hL
  refine lv_iconst (v := 1) C.1.1 C.1.2.1 d0 (by decide) ?_
  refine va_forget (fun q hq => hS.2.2 q hq) ?_
  refine W.widen (k := 600000) (n := 7302250) (Nat.le_of_ble_eq_true rfl) (Nat.le_of_ble_eq_true rfl) ?_
  exact lw_ret C.1.1 C.1.2.1 C.1.2.2.1 C.1.2.2.2.2.2.2.2.2.1 d1
/-- a call of the object's -/
theorem lz_callV {k2 idx ci : Nat} {sl : List (Option Nat)} {vs : List Int32} {rest : List Value} {ty : FieldType} {r : vw_C} (hd : decode code pc = .ok (.invokevirtual idx, 3)) (hl : pm_LV 15 idx k2) (hok : pm_ok k2) (hr : pm_r k2 = some ty) (hst : st = (vs.map Value.int).reverse ++ .ref 1 :: rest) (hn : vs.length + 1 = pm_na k2) (hmx : vs.length + 1 ≤ pm_l k2) (hw : pm_wo k2 = 0) (hs : (pm_sh 0)[0]? = some (.inl (ci, sl))) (hci : vwCl[ci]? = some r) (hC : r.1 = (pm_y k2).cls) (hR : lz_room k2) (hc : (rest.map fun v => v.category).sum ≤ 8)
    (h : pm_P k2 0 (pm_ent 0 (.ref 0 :: vs.map Value.int)) [] A (fun r1 A1 => lz_P N xs (pc + 3) L (.int r1 :: rest) A1)) : lz_P N xs pc L st A := by
  subst hst
  intro p l e s m below meth c b ad D tyc H locs ls C hP hS hL
  have CC := C
  obtain ⟨⟨hx, hb, hret, hml, hown, hts, hX, hbl, hlocks, hgv⟩, hL9, hK, hi0, hA0⟩ := C
  have hM := pm_met (as := .ref 0 :: vs.map Value.int) hok cls_all h (by simpa using hmx) (by rw [List.all_cons, lz_cats]; rfl) l ad D tyc (by rw [hw]; exact hi0)
  rw [pm_Qi_eq hr, hw] at hM
  have cw := cwV (R := room_1) (mc := 0) (ms := 0) (rm := pm_rm k2) vs.length hts (lz_goodV hl hok) rfl rfl rfl ⟨rfl, hok.2.2.2.2.1, hok.2.2.2.2.2, lz_arity hl hn⟩ hR
  rw [show ((vs.map Value.int).reverse ++ Value.ref 1 :: rest).map (tv (lz_ad b (ad 0))) = ((vs.map Value.int).map (tv ad)).reverse ++ Value.ref (ad 0) :: rest.map (tv (lz_ad b (ad 0))) by rw [List.map_append, List.map_reverse, lz_tvs, lz_tvs]; rfl]
  refine va_calli (va_runV (As := (vs.map Value.int).map (tv ad)) (rest := rest.map (tv (lz_ad b (ad 0)))) ⟨hx, hb, hml, hown, hts⟩ hM cw ⟨pm_blind (as := .ref 0 :: vs.map Value.int), by rw [← hC]; exact va_recv hK hP (ci := ci) (q0 := 0) hci (pm_w_get hs), fun U hU hW => ⟨rfl, by rw [hU]; exact hP, va_K.moved hW.alike hK⟩⟩ rfl (by simp) hL.1 rfl (lv_room (by rw [pm_catsum]; exact hc)) hd ⟨Nat.le_of_ble_eq_true rfl, Nat.le_of_ble_eq_true rfl⟩) hS (fun q _ h => hA0 q h) hA0 (fun r1 A2 t H1 locs1 ht hvm hq hB hz hk1 hS1 => ?_)
  obtain ⟨hB1, hB2⟩ := hB
  rw [ht] at hB1
  exact hq p l e s m below meth c b ad D tyc H1 locs1 ls CC hB1 hS1 hL
/-- a call of the law's own that answers an int: As as the callee sees it, Bs as it lies here -/
theorem lz_callS {k2 idx : Nat} {As Bs rest : List Value} {ty : FieldType} (hd : decode code pc = .ok (.invokestatic idx, 3)) (hl : pm_LS 15 idx k2) (hok : pm_ok k2) (hr : pm_r k2 = some ty) (hst : st = Bs.reverse ++ rest) (hBs : ∀ (b : Nat) (ad : Nat → Nat), Bs.map (tv (lz_ad b (ad 0))) = As.map (tv ad)) (hn : As.length = pm_na k2) (hmx : As.length ≤ pm_l k2) (hcat : As.all (fun v => v.category == 1) = true) (hw : pm_wo k2 = 0) (hR : lz_room k2) (hc : (rest.map fun v => v.category).sum ≤ 8)
    (h : pm_P k2 0 (pm_ent 0 As) [] A (fun r1 A1 => lz_P N xs (pc + 3) L (.int r1 :: rest) A1)) : lz_P N xs pc L st A := by
  subst hst
  intro p l e s m below meth c b ad D tyc H locs ls C hP hS hL
  have CC := C
  obtain ⟨⟨hx, hb, hret, hml, hown, hts, hX, hbl, hlocks, hgv⟩, hL9, hK, hi0, hA0⟩ := C
  have hM := pm_met hok cls_all h hmx hcat l ad D tyc (by rw [hw]; exact hi0)
  rw [pm_Qi_eq hr, hw] at hM
  have cw := va_cwS (R := room_1) (mc := 0) (ms := 0) (rm := pm_rm k2) As.length hts (lz_goodS hl hok) rfl rfl rfl ⟨hok.2.2.2.2.1, hok.2.2.2.2.2, by rw [hl.2.2, hn]⟩ hR
  rw [show (Bs.reverse ++ rest).map (tv (lz_ad b (ad 0))) = (As.map (tv ad)).reverse ++ rest.map (tv (lz_ad b (ad 0))) by rw [List.map_append, List.map_reverse, hBs]]
  refine va_calli (va_runS (As := As.map (tv ad)) (rest := rest.map (tv (lz_ad b (ad 0)))) ⟨hx, hb, hml, hown, hts⟩ hM cw ⟨pm_blind (as := As), fun U hU hW => ⟨rfl, by rw [hU]; exact hP, va_K.moved hW.alike hK⟩⟩ rfl (by simp) hL.1 rfl (lv_room (by rw [pm_catsum]; exact hc)) hd ⟨Nat.le_of_ble_eq_true rfl, Nat.le_of_ble_eq_true rfl⟩) hS (fun q _ h => hA0 q h) hA0 (fun r1 A2 t H1 locs1 ht hvm hq hB hz hk1 hS1 => ?_)
  obtain ⟨hB1, hB2⟩ := hB
  rw [ht] at hB1
  exact hq p l e s m below meth c b ad D tyc H1 locs1 ls CC hB1 hS1 hL
/-- the same, of a long -/
theorem lz_callL {k2 idx : Nat} {As Bs rest : List Value} (hd : decode code pc = .ok (.invokestatic idx, 3)) (hl : pm_LS 15 idx k2) (hok : pm_ok k2) (hr : pm_r k2 = some .long) (hst : st = Bs.reverse ++ rest) (hBs : ∀ (b : Nat) (ad : Nat → Nat), Bs.map (tv (lz_ad b (ad 0))) = As.map (tv ad)) (hn : As.length = pm_na k2) (hmx : As.length ≤ pm_l k2) (hcat : As.all (fun v => v.category == 1) = true) (hw : pm_wo k2 = 0) (hR : lz_room k2) (hc : (rest.map fun v => v.category).sum ≤ 8)
    (h : pl_P k2 0 (pm_ent 0 As) [] A (fun r1 A1 => lz_P N xs (pc + 3) L (.long r1 :: rest) A1)) : lz_P N xs pc L st A := by
  subst hst
  intro p l e s m below meth c b ad D tyc H locs ls C hP hS hL
  have CC := C
  obtain ⟨⟨hx, hb, hret, hml, hown, hts, hX, hbl, hlocks, hgv⟩, hL9, hK, hi0, hA0⟩ := C
  have hM := pl_met hok cls_all h hmx hcat l ad D tyc (by rw [hw]; exact hi0)
  unfold pl_Q at hM
  rw [hw] at hM
  have cw := va_cwS (R := room_1) (mc := 0) (ms := 0) (rm := pm_rm k2) As.length hts (lz_goodS hl hok) rfl rfl rfl ⟨hok.2.2.2.2.1, hok.2.2.2.2.2, by rw [hl.2.2, hn]⟩ hR
  rw [show (Bs.reverse ++ rest).map (tv (lz_ad b (ad 0))) = (As.map (tv ad)).reverse ++ rest.map (tv (lz_ad b (ad 0))) by rw [List.map_append, List.map_reverse, hBs]]
  refine va_calll (va_runS (As := As.map (tv ad)) (rest := rest.map (tv (lz_ad b (ad 0)))) ⟨hx, hb, hml, hown, hts⟩ hM cw ⟨pm_blind (as := As), fun U hU hW => ⟨rfl, by rw [hU]; exact hP, va_K.moved hW.alike hK⟩⟩ rfl (by simp) hL.1 rfl (lv_room (by rw [pm_catsum]; exact hc)) hd ⟨Nat.le_of_ble_eq_true rfl, Nat.le_of_ble_eq_true rfl⟩) hS (fun q _ h => hA0 q h) hA0 (fun r1 A2 t H1 locs1 ht hvm hq hB hz hk1 hS1 => ?_)
  obtain ⟨hB1, hB2⟩ := hB
  rw [ht] at hB1
  exact hq p l e s m below meth c b ad D tyc H1 locs1 ls CC hB1 hS1 hL
/-- a script's number -/
theorem lz_cell {i : Nat} {rest : List Value} (hd : decode code pc = .ok (.invokestatic 54, 3)) (hl : pm_LS 15 54 188) (hok : pm_ok 188) (hst : st = .int (nI i) :: .ref 0 :: rest) (hi9 : i < 2 ^ 30) (hR : lz_room 188) (hc : (rest.map fun v => v.category).sum ≤ 8)
    (h : lz_P N xs (pc + 3) L (.int (cellV N xs i) :: rest) A) : lz_P N xs pc L st A := by
  subst hst
  intro p l e s m below meth c b ad D tyc H locs ls C hP hS hL
  have CC := C
  obtain ⟨⟨hx, hb, hret, hml, hown, hts, hX, hbl, hlocks, hgv⟩, hL9, hK, hi0, hA0⟩ := C
  have hM := ce_met (b := b) (xs := xs) hL9 hi9 l
  unfold ce_Q at hM
  have cw := va_cwS (R := room_1) (mc := 0) (ms := 0) (rm := pm_rm 188) 2 hts (lz_goodS hl hok) rfl rfl rfl ⟨hok.2.2.2.2.1, hok.2.2.2.2.2, by rw [hl.2.2]; rfl⟩ hR
  have hbz : ¬ s.heap.size ≤ b := Nat.not_le.mpr hbl
  refine va_calli (va_runS (As := [.ref b, .int (nI i)]) (rest := rest.map (tv (lz_ad b (ad 0)))) ⟨hx, hb, hml, hown, hts⟩ hM cw ⟨ce_blind, fun U hU hW => ⟨rfl, by rw [hU]; exact va_X.moved hW.alike (hX.kept (hS.2.1 b hbl hbz)), by rw [hU]; exact Nat.lt_of_lt_of_le hbl hS.1⟩⟩ rfl rfl hL.1 rfl (lv_room (by rw [pm_catsum]; exact hc)) hd ⟨Nat.le_of_ble_eq_true rfl, Nat.le_of_ble_eq_true rfl⟩) hS (fun q _ h => h.elim) (fun q h => h.elim) (fun r1 u t H1 locs1 ht hvm hq hB hz hk1 hS1 => ?_)
  subst hq
  have hP1 : va_P D vwCl (pm_w 0 ad tyc A) H1 := hP.kept (fun k q hk => hk1 q.1 (hP k q hk).lt (fun h9 => h9))
  exact h p l e s m below meth c b ad D tyc H1 locs1 ls CC hP1 hS1 hL
end LZ
