section PMR
variable {k pc : Nat} {L : Lcs} {st : List Value} {A : Mem} {Q : Int32 → Mem → Prop}
theorem pm_iconst {n : Int} {v : Int32} (hd : decode (pm_c k) pc = .ok (.iconst n, 1)) (hv : Int32.ofInt n = v) (h : pm_P k (pc + 1) L (.int v :: st) A Q) : pm_P k pc L st A Q := by
  intro p l e s m args below meth c ad D tyc H locs ls C hP hS hL
  exact lv_iconst C.1 C.2.1 hd hv (h p l e s m args below meth c ad D tyc H locs ls C hP hS hL)
theorem pm_bipush {n : Int} {v : Int32} (hd : decode (pm_c k) pc = .ok (.bipush n, 2)) (hv : (Int8.ofInt n).toInt32 = v) (h : pm_P k (pc + 2) L (.int v :: st) A Q) : pm_P k pc L st A Q := by
  intro p l e s m args below meth c ad D tyc H locs ls C hP hS hL
  exact lv_bipush C.1 C.2.1 hd hv (h p l e s m args below meth c ad D tyc H locs ls C hP hS hL)
theorem pm_sipush {n : Int} {v : Int32} (hd : decode (pm_c k) pc = .ok (.sipush n, 3)) (hv : (Int16.ofInt n).toInt32 = v) (h : pm_P k (pc + 3) L (.int v :: st) A Q) : pm_P k pc L st A Q := by
  intro p l e s m args below meth c ad D tyc H locs ls C hP hS hL
  exact lv_sipush C.1 C.2.1 hd hv (h p l e s m args below meth c ad D tyc H locs ls C hP hS hL)
theorem pm_lconst {n : Fin 2} {v : Int64} (hd : decode (pm_c k) pc = .ok (.lconst n, 1)) (hv : Int64.ofNat (n : Nat) = v) (h : pm_P k (pc + 1) L (.long v :: st) A Q) : pm_P k pc L st A Q := by
  intro p l e s m args below meth c ad D tyc H locs ls C hP hS hL
  exact lv_lconst C.1 C.2.1 hd hv (h p l e s m args below meth c ad D tyc H locs ls C hP hS hL)
theorem pm_iload_n {j : Fin 4} {i : Nat} {x : Int32} (hd : decode (pm_c k) pc = .ok (.iload_n j, 1)) (hi : (j : Nat) = i) (hl : pm_g L i = some (.int x)) (h : pm_P k (pc + 1) L (.int x :: st) A Q) : pm_P k pc L st A Q := by
  intro p l e s m args below meth c ad D tyc H locs ls C hP hS hL
  exact lv_iload_n C.1 C.2.1 hd hi (pm_read hL hl) (h p l e s m args below meth c ad D tyc H locs ls C hP hS hL)
theorem pm_iload {i : Nat} {x : Int32} (hd : decode (pm_c k) pc = .ok (.iload i, 2)) (hl : pm_g L i = some (.int x)) (h : pm_P k (pc + 2) L (.int x :: st) A Q) : pm_P k pc L st A Q := by
  intro p l e s m args below meth c ad D tyc H locs ls C hP hS hL
  exact lv_iload C.1 C.2.1 hd (pm_read hL hl) (h p l e s m args below meth c ad D tyc H locs ls C hP hS hL)
theorem pm_lload_n {j : Fin 4} {i : Nat} {x : Int64} (hd : decode (pm_c k) pc = .ok (.lload_n j, 1)) (hi : (j : Nat) = i) (hl : pm_g L i = some (.long x)) (h : pm_P k (pc + 1) L (.long x :: st) A Q) : pm_P k pc L st A Q := by
  intro p l e s m args below meth c ad D tyc H locs ls C hP hS hL
  exact lv_lload_n C.1 C.2.1 hd hi (pm_read hL hl) (h p l e s m args below meth c ad D tyc H locs ls C hP hS hL)
theorem pm_lload {i : Nat} {x : Int64} (hd : decode (pm_c k) pc = .ok (.lload i, 2)) (hl : pm_g L i = some (.long x)) (h : pm_P k (pc + 2) L (.long x :: st) A Q) : pm_P k pc L st A Q := by
  intro p l e s m args below meth c ad D tyc H locs ls C hP hS hL
  exact lv_lload C.1 C.2.1 hd (pm_read hL hl) (h p l e s m args below meth c ad D tyc H locs ls C hP hS hL)
theorem pm_aload_n {j : Fin 4} {i : Nat} {x : Nat} (hd : decode (pm_c k) pc = .ok (.aload_n j, 1)) (hi : (j : Nat) = i) (hl : pm_g L i = some (.ref x)) (h : pm_P k (pc + 1) L (.ref x :: st) A Q) : pm_P k pc L st A Q := by
  intro p l e s m args below meth c ad D tyc H locs ls C hP hS hL
  exact lv_aload_n C.1 C.2.1 hd hi (pm_read hL hl) (h p l e s m args below meth c ad D tyc H locs ls C hP hS hL)
theorem pm_istore_n {j : Fin 4} {i : Nat} {x : Int32} {L2 : Lcs} (hd : decode (pm_c k) pc = .ok (.istore_n j, 1)) (hi : (j : Nat) = i) (hn : i < pm_l k) (hs : pm_s1 L i (.int x) = L2) (h : pm_P k (pc + 1) L2 st A Q) : pm_P k pc L (.int x :: st) A Q := by
  intro p l e s m args below meth c ad D tyc H locs ls C hP hS hL
  subst hs
  exact lv_istore_n C.1 C.2.1 hd hi hL hn rfl (fun ls2 hL2 => (h p l e s m args below meth c ad D tyc H locs ls2 C hP hS (pm_st1 hL2)))
theorem pm_istore {i : Nat} {x : Int32} {L2 : Lcs} (hd : decode (pm_c k) pc = .ok (.istore i, 2)) (hn : i < pm_l k) (hs : pm_s1 L i (.int x) = L2) (h : pm_P k (pc + 2) L2 st A Q) : pm_P k pc L (.int x :: st) A Q := by
  intro p l e s m args below meth c ad D tyc H locs ls C hP hS hL
  subst hs
  exact lv_istore C.1 C.2.1 hd hL hn rfl (fun ls2 hL2 => (h p l e s m args below meth c ad D tyc H locs ls2 C hP hS (pm_st1 hL2)))
theorem pm_astore_n {j : Fin 4} {i : Nat} {x : Nat} {L2 : Lcs} (hd : decode (pm_c k) pc = .ok (.astore_n j, 1)) (hi : (j : Nat) = i) (hn : i < pm_l k) (hs : pm_s1 L i (.ref x) = L2) (h : pm_P k (pc + 1) L2 st A Q) : pm_P k pc L (.ref x :: st) A Q := by
  intro p l e s m args below meth c ad D tyc H locs ls C hP hS hL
  subst hs
  exact lv_astore_n C.1 C.2.1 hd hi hL hn rfl (fun ls2 hL2 => (h p l e s m args below meth c ad D tyc H locs ls2 C hP hS (pm_st1 hL2)))
theorem pm_lstore_n {j : Fin 4} {i : Nat} {x : Int64} {L2 : Lcs} (hd : decode (pm_c k) pc = .ok (.lstore_n j, 1)) (hi : (j : Nat) = i) (hn : i + 1 < pm_l k) (hs : pm_s2 L i (.long x) = L2) (h : pm_P k (pc + 1) L2 st A Q) : pm_P k pc L (.long x :: st) A Q := by
  intro p l e s m args below meth c ad D tyc H locs ls C hP hS hL
  subst hs
  exact lv_lstore_n C.1 C.2.1 hd hi hL hn rfl (fun ls2 hL2 => (h p l e s m args below meth c ad D tyc H locs ls2 C hP hS (pm_st2 hL2)))
theorem pm_lstore {i : Nat} {x : Int64} {L2 : Lcs} (hd : decode (pm_c k) pc = .ok (.lstore i, 2)) (hn : i + 1 < pm_l k) (hs : pm_s2 L i (.long x) = L2) (h : pm_P k (pc + 2) L2 st A Q) : pm_P k pc L (.long x :: st) A Q := by
  intro p l e s m args below meth c ad D tyc H locs ls C hP hS hL
  subst hs
  exact lv_lstore C.1 C.2.1 hd hL hn rfl (fun ls2 hL2 => (h p l e s m args below meth c ad D tyc H locs ls2 C hP hS (pm_st2 hL2)))
theorem pm_iinc {i : Nat} {n : Int} {x v : Int32} {L2 : Lcs} (hd : decode (pm_c k) pc = .ok (.iinc i n, 3)) (hl : pm_g L i = some (.int x)) (hv : x + Int32.ofInt n = v) (hn : i < pm_l k) (hs : pm_s1 L i (.int v) = L2) (h : pm_P k (pc + 3) L2 st A Q) : pm_P k pc L st A Q := by
  intro p l e s m args below meth c ad D tyc H locs ls C hP hS hL
  subst hs
  have hm : (i, tv ad (.int x)) ∈ L.map (fun q => (q.1, tv ad q.2)) := List.mem_map.mpr ⟨(i, .int x), pm_g_mem hl, rfl⟩
  obtain ⟨q, hq⟩ := List.getElem?_of_mem hm
  exact lv_iinc C.1 C.2.1 hd hL (k := q) hq hv hn rfl (fun ls2 hL2 => (h p l e s m args below meth c ad D tyc H locs ls2 C hP hS (pm_st1 hL2)))
theorem pm_iadd {x y : Int32} (hd : decode (pm_c k) pc = .ok (.iadd, 1)) (h : pm_P k (pc + 1) L (.int (x + y) :: st) A Q) : pm_P k pc L (.int y :: .int x :: st) A Q := by
  intro p l e s m args below meth c ad D tyc H locs ls C hP hS hL
  exact lv_iadd C.1 C.2.1 hd (h p l e s m args below meth c ad D tyc H locs ls C hP hS hL)
theorem pm_isub {x y : Int32} (hd : decode (pm_c k) pc = .ok (.isub, 1)) (h : pm_P k (pc + 1) L (.int (x - y) :: st) A Q) : pm_P k pc L (.int y :: .int x :: st) A Q := by
  intro p l e s m args below meth c ad D tyc H locs ls C hP hS hL
  exact lv_isub C.1 C.2.1 hd (h p l e s m args below meth c ad D tyc H locs ls C hP hS hL)
theorem pm_imul {x y : Int32} (hd : decode (pm_c k) pc = .ok (.imul, 1)) (h : pm_P k (pc + 1) L (.int (x * y) :: st) A Q) : pm_P k pc L (.int y :: .int x :: st) A Q := by
  intro p l e s m args below meth c ad D tyc H locs ls C hP hS hL
  exact lv_imul C.1 C.2.1 hd (h p l e s m args below meth c ad D tyc H locs ls C hP hS hL)
theorem pm_iand {x y : Int32} (hd : decode (pm_c k) pc = .ok (.iand, 1)) (h : pm_P k (pc + 1) L (.int (x &&& y) :: st) A Q) : pm_P k pc L (.int y :: .int x :: st) A Q := by
  intro p l e s m args below meth c ad D tyc H locs ls C hP hS hL
  exact lv_iand C.1 C.2.1 hd (h p l e s m args below meth c ad D tyc H locs ls C hP hS hL)
theorem pm_lsub {x y : Int64} (hd : decode (pm_c k) pc = .ok (.lsub, 1)) (h : pm_P k (pc + 1) L (.long (x - y) :: st) A Q) : pm_P k pc L (.long y :: .long x :: st) A Q := by
  intro p l e s m args below meth c ad D tyc H locs ls C hP hS hL
  exact lv_lsub C.1 C.2.1 hd (h p l e s m args below meth c ad D tyc H locs ls C hP hS hL)
theorem pm_lmul {x y : Int64} (hd : decode (pm_c k) pc = .ok (.lmul, 1)) (h : pm_P k (pc + 1) L (.long (x * y) :: st) A Q) : pm_P k pc L (.long y :: .long x :: st) A Q := by
  intro p l e s m args below meth c ad D tyc H locs ls C hP hS hL
  exact lv_lmul C.1 C.2.1 hd (h p l e s m args below meth c ad D tyc H locs ls C hP hS hL)
theorem pm_ineg {x : Int32} (hd : decode (pm_c k) pc = .ok (.ineg, 1)) (h : pm_P k (pc + 1) L (.int (-x) :: st) A Q) : pm_P k pc L (.int x :: st) A Q := by
  intro p l e s m args below meth c ad D tyc H locs ls C hP hS hL
  exact lv_ineg C.1 C.2.1 hd (h p l e s m args below meth c ad D tyc H locs ls C hP hS hL)
theorem pm_i2l {x : Int32} {v : Int64} (hd : decode (pm_c k) pc = .ok (.i2l, 1)) (hv : x.toInt64 = v) (h : pm_P k (pc + 1) L (.long v :: st) A Q) : pm_P k pc L (.int x :: st) A Q := by
  intro p l e s m args below meth c ad D tyc H locs ls C hP hS hL
  exact lv_i2l C.1 C.2.1 hd hv (h p l e s m args below meth c ad D tyc H locs ls C hP hS hL)
theorem pm_l2i {x : Int64} {v : Int32} (hd : decode (pm_c k) pc = .ok (.l2i, 1)) (hv : x.toInt32 = v) (h : pm_P k (pc + 1) L (.int v :: st) A Q) : pm_P k pc L (.long x :: st) A Q := by
  intro p l e s m args below meth c ad D tyc H locs ls C hP hS hL
  exact lv_l2i C.1 C.2.1 hd hv (h p l e s m args below meth c ad D tyc H locs ls C hP hS hL)
theorem pm_i2b {x v : Int32} (hd : decode (pm_c k) pc = .ok (.i2b, 1)) (hv : x.toInt8.toInt32 = v) (h : pm_P k (pc + 1) L (.int v :: st) A Q) : pm_P k pc L (.int x :: st) A Q := by
  intro p l e s m args below meth c ad D tyc H locs ls C hP hS hL
  exact lv_i2b C.1 C.2.1 hd hv (h p l e s m args below meth c ad D tyc H locs ls C hP hS hL)
theorem pm_i2c {x v : Int32} (hd : decode (pm_c k) pc = .ok (.i2c, 1)) (hv : (x.toUInt32 % 65536).toInt32 = v) (h : pm_P k (pc + 1) L (.int v :: st) A Q) : pm_P k pc L (.int x :: st) A Q := by
  intro p l e s m args below meth c ad D tyc H locs ls C hP hS hL
  exact lv_i2c C.1 C.2.1 hd hv (h p l e s m args below meth c ad D tyc H locs ls C hP hS hL)
theorem pm_lcmp {x y : Int64} (hd : decode (pm_c k) pc = .ok (.lcmp, 1)) (h : pm_P k (pc + 1) L (.int (lg_cmp x y) :: st) A Q) : pm_P k pc L (.long y :: .long x :: st) A Q := by
  intro p l e s m args below meth c ad D tyc H locs ls C hP hS hL
  exact W.lcmp C.1 C.2.1 hd (h p l e s m args below meth c ad D tyc H locs ls C hP hS hL)
theorem pm_dup {v : Value} (hd : decode (pm_c k) pc = .ok (.dup, 1)) (hv : v.category = 1) (h : pm_P k (pc + 1) L (v :: v :: st) A Q) : pm_P k pc L (v :: st) A Q := by
  intro p l e s m args below meth c ad D tyc H locs ls C hP hS hL
  exact lv_dup C.1 C.2.1 hd ((tv_cat ad v).trans hv) (h p l e s m args below meth c ad D tyc H locs ls C hP hS hL)
theorem pm_dup2 {v u : Value} (hd : decode (pm_c k) pc = .ok (.dup2, 1)) (hv : v.category = 1) (hu : u.category = 1) (h : pm_P k (pc + 1) L (v :: u :: v :: u :: st) A Q) : pm_P k pc L (v :: u :: st) A Q := by
  intro p l e s m args below meth c ad D tyc H locs ls C hP hS hL
  exact lv_dup2_11 C.1 C.2.1 hd ((tv_cat ad v).trans hv) ((tv_cat ad u).trans hu) (h p l e s m args below meth c ad D tyc H locs ls C hP hS hL)
theorem pm_idiv {x y : Int32} (hd : decode (pm_c k) pc = .ok (.idiv, 1)) (hy : ¬ y = 0) (h : pm_P k (pc + 1) L (.int (x / y) :: st) A Q) : pm_P k pc L (.int y :: .int x :: st) A Q := by
  intro p l e s m args below meth c ad D tyc H locs ls C hP hS hL
  exact lv_idiv C.1 C.2.1 hd hy (h p l e s m args below meth c ad D tyc H locs ls C hP hS hL)
theorem pm_ldc2 {idx : Nat} {v : Int64} (hd : decode (pm_c k) pc = .ok (.ldc2_w idx, 3)) (hl : pm_LL (pm_o k) idx v) (h : pm_P k (pc + 3) L (.long v :: st) A Q) : pm_P k pc L st A Q := by
  intro p l e s m args below meth c ad D tyc H locs ls C hP hS hL
  have hw := pm_hts C.2.2.2.2.2.1 hl
  rw [← C.2.2.2.2.2.2.2.2.2.1.2.2.1] at hw
  exact lv_ldc2 C.1 C.2.1 C.2.2.2.2.1 hw hd (h p l e s m args below meth c ad D tyc H locs ls C hP hS hL)
theorem pm_goto {off : Int} {tgt : Nat} (hd : decode (pm_c k) pc = .ok (.goto off, 3)) (ht : (pc : Int) + off = (tgt : Int)) (h : pm_P k tgt L st A Q) : pm_P k pc L st A Q := by
  intro p l e s m args below meth c ad D tyc H locs ls C hP hS hL
  exact lv_goto C.1 C.2.1 hd ht (h p l e s m args below meth c ad D tyc H locs ls C hP hS hL)
theorem pm_if_eq {x : Int32} {off : Int} {tgt : Nat} (hd : decode (pm_c k) pc = .ok (.ifCond .eq off, 3)) (ht : (pc : Int) + off = (tgt : Int)) (kt : x = 0 → pm_P k tgt L st A Q) (kf : ¬ x = 0 → pm_P k (pc + 3) L st A Q) : pm_P k pc L (.int x :: st) A Q := by
  intro p l e s m args below meth c ad D tyc H locs ls C hP hS hL
  exact lv_if_eq C.1 C.2.1 hd ht (fun q => (kt q p l e s m args below meth c ad D tyc H locs ls C hP hS hL)) (fun q => (kf q p l e s m args below meth c ad D tyc H locs ls C hP hS hL))
theorem pm_icmp_eq {x y : Int32} {off : Int} {tgt : Nat} (hd : decode (pm_c k) pc = .ok (.if_icmp .eq off, 3)) (ht : (pc : Int) + off = (tgt : Int)) (kt : x = y → pm_P k tgt L st A Q) (kf : ¬ x = y → pm_P k (pc + 3) L st A Q) : pm_P k pc L (.int y :: .int x :: st) A Q := by
  intro p l e s m args below meth c ad D tyc H locs ls C hP hS hL
  exact lv_icmp_eq C.1 C.2.1 hd ht (fun q => (kt q p l e s m args below meth c ad D tyc H locs ls C hP hS hL)) (fun q => (kf q p l e s m args below meth c ad D tyc H locs ls C hP hS hL))
theorem pm_if_ne {x : Int32} {off : Int} {tgt : Nat} (hd : decode (pm_c k) pc = .ok (.ifCond .ne off, 3)) (ht : (pc : Int) + off = (tgt : Int)) (kt : ¬ x = 0 → pm_P k tgt L st A Q) (kf : x = 0 → pm_P k (pc + 3) L st A Q) : pm_P k pc L (.int x :: st) A Q := by
  intro p l e s m args below meth c ad D tyc H locs ls C hP hS hL
  exact lv_if_ne C.1 C.2.1 hd ht (fun q => (kt q p l e s m args below meth c ad D tyc H locs ls C hP hS hL)) (fun q => (kf q p l e s m args below meth c ad D tyc H locs ls C hP hS hL))
theorem pm_icmp_ne {x y : Int32} {off : Int} {tgt : Nat} (hd : decode (pm_c k) pc = .ok (.if_icmp .ne off, 3)) (ht : (pc : Int) + off = (tgt : Int)) (kt : ¬ x = y → pm_P k tgt L st A Q) (kf : x = y → pm_P k (pc + 3) L st A Q) : pm_P k pc L (.int y :: .int x :: st) A Q := by
  intro p l e s m args below meth c ad D tyc H locs ls C hP hS hL
  exact lv_icmp_ne C.1 C.2.1 hd ht (fun q => (kt q p l e s m args below meth c ad D tyc H locs ls C hP hS hL)) (fun q => (kf q p l e s m args below meth c ad D tyc H locs ls C hP hS hL))
theorem pm_if_lt {x : Int32} {off : Int} {tgt : Nat} (hd : decode (pm_c k) pc = .ok (.ifCond .lt off, 3)) (ht : (pc : Int) + off = (tgt : Int)) (kt : x < 0 → pm_P k tgt L st A Q) (kf : ¬ x < 0 → pm_P k (pc + 3) L st A Q) : pm_P k pc L (.int x :: st) A Q := by
  intro p l e s m args below meth c ad D tyc H locs ls C hP hS hL
  exact lv_if_lt C.1 C.2.1 hd ht (fun q => (kt q p l e s m args below meth c ad D tyc H locs ls C hP hS hL)) (fun q => (kf q p l e s m args below meth c ad D tyc H locs ls C hP hS hL))
theorem pm_icmp_lt {x y : Int32} {off : Int} {tgt : Nat} (hd : decode (pm_c k) pc = .ok (.if_icmp .lt off, 3)) (ht : (pc : Int) + off = (tgt : Int)) (kt : x < y → pm_P k tgt L st A Q) (kf : ¬ x < y → pm_P k (pc + 3) L st A Q) : pm_P k pc L (.int y :: .int x :: st) A Q := by
  intro p l e s m args below meth c ad D tyc H locs ls C hP hS hL
  exact lv_icmp_lt C.1 C.2.1 hd ht (fun q => (kt q p l e s m args below meth c ad D tyc H locs ls C hP hS hL)) (fun q => (kf q p l e s m args below meth c ad D tyc H locs ls C hP hS hL))
theorem pm_if_ge {x : Int32} {off : Int} {tgt : Nat} (hd : decode (pm_c k) pc = .ok (.ifCond .ge off, 3)) (ht : (pc : Int) + off = (tgt : Int)) (kt : 0 ≤ x → pm_P k tgt L st A Q) (kf : ¬ 0 ≤ x → pm_P k (pc + 3) L st A Q) : pm_P k pc L (.int x :: st) A Q := by
  intro p l e s m args below meth c ad D tyc H locs ls C hP hS hL
  exact lv_if_ge C.1 C.2.1 hd ht (fun q => (kt q p l e s m args below meth c ad D tyc H locs ls C hP hS hL)) (fun q => (kf q p l e s m args below meth c ad D tyc H locs ls C hP hS hL))
theorem pm_icmp_ge {x y : Int32} {off : Int} {tgt : Nat} (hd : decode (pm_c k) pc = .ok (.if_icmp .ge off, 3)) (ht : (pc : Int) + off = (tgt : Int)) (kt : y ≤ x → pm_P k tgt L st A Q) (kf : ¬ y ≤ x → pm_P k (pc + 3) L st A Q) : pm_P k pc L (.int y :: .int x :: st) A Q := by
  intro p l e s m args below meth c ad D tyc H locs ls C hP hS hL
  exact lv_icmp_ge C.1 C.2.1 hd ht (fun q => (kt q p l e s m args below meth c ad D tyc H locs ls C hP hS hL)) (fun q => (kf q p l e s m args below meth c ad D tyc H locs ls C hP hS hL))
theorem pm_if_gt {x : Int32} {off : Int} {tgt : Nat} (hd : decode (pm_c k) pc = .ok (.ifCond .gt off, 3)) (ht : (pc : Int) + off = (tgt : Int)) (kt : 0 < x → pm_P k tgt L st A Q) (kf : ¬ 0 < x → pm_P k (pc + 3) L st A Q) : pm_P k pc L (.int x :: st) A Q := by
  intro p l e s m args below meth c ad D tyc H locs ls C hP hS hL
  exact lv_if_gt C.1 C.2.1 hd ht (fun q => (kt q p l e s m args below meth c ad D tyc H locs ls C hP hS hL)) (fun q => (kf q p l e s m args below meth c ad D tyc H locs ls C hP hS hL))
theorem pm_icmp_gt {x y : Int32} {off : Int} {tgt : Nat} (hd : decode (pm_c k) pc = .ok (.if_icmp .gt off, 3)) (ht : (pc : Int) + off = (tgt : Int)) (kt : y < x → pm_P k tgt L st A Q) (kf : ¬ y < x → pm_P k (pc + 3) L st A Q) : pm_P k pc L (.int y :: .int x :: st) A Q := by
  intro p l e s m args below meth c ad D tyc H locs ls C hP hS hL
  exact lv_icmp_gt C.1 C.2.1 hd ht (fun q => (kt q p l e s m args below meth c ad D tyc H locs ls C hP hS hL)) (fun q => (kf q p l e s m args below meth c ad D tyc H locs ls C hP hS hL))
theorem pm_if_le {x : Int32} {off : Int} {tgt : Nat} (hd : decode (pm_c k) pc = .ok (.ifCond .le off, 3)) (ht : (pc : Int) + off = (tgt : Int)) (kt : x ≤ 0 → pm_P k tgt L st A Q) (kf : ¬ x ≤ 0 → pm_P k (pc + 3) L st A Q) : pm_P k pc L (.int x :: st) A Q := by
  intro p l e s m args below meth c ad D tyc H locs ls C hP hS hL
  exact lv_if_le C.1 C.2.1 hd ht (fun q => (kt q p l e s m args below meth c ad D tyc H locs ls C hP hS hL)) (fun q => (kf q p l e s m args below meth c ad D tyc H locs ls C hP hS hL))
theorem pm_icmp_le {x y : Int32} {off : Int} {tgt : Nat} (hd : decode (pm_c k) pc = .ok (.if_icmp .le off, 3)) (ht : (pc : Int) + off = (tgt : Int)) (kt : x ≤ y → pm_P k tgt L st A Q) (kf : ¬ x ≤ y → pm_P k (pc + 3) L st A Q) : pm_P k pc L (.int y :: .int x :: st) A Q := by
  intro p l e s m args below meth c ad D tyc H locs ls C hP hS hL
  exact lv_icmp_le C.1 C.2.1 hd ht (fun q => (kt q p l e s m args below meth c ad D tyc H locs ls C hP hS hL)) (fun q => (kf q p l e s m args below meth c ad D tyc H locs ls C hP hS hL))
theorem pm_swOut {dflt lo hi : Int} {offs : Array Int} {len : Nat} {x : Int32} {tgt : Nat} (hd : decode (pm_c k) pc = .ok (.tableswitch dflt lo hi offs, len)) (hx : x.toInt < lo ∨ hi < x.toInt) (ht : (pc : Int) + dflt = (tgt : Int)) (h : pm_P k tgt L st A Q) : pm_P k pc L (.int x :: st) A Q := by
  intro p l e s m args below meth c ad D tyc H locs ls C hP hS hL
  exact lv_tableOut C.1 C.2.1 hd hx ht (h p l e s m args below meth c ad D tyc H locs ls C hP hS hL)
theorem pm_swIn {dflt lo hi : Int} {offs : Array Int} {len : Nat} {x : Int32} {off : Int} {tgt : Nat} (hd : decode (pm_c k) pc = .ok (.tableswitch dflt lo hi offs, len)) (h1 : ¬ x.toInt < lo) (h2 : ¬ hi < x.toInt) (ho : offs[(x.toInt - lo).toNat]? = some off) (ht : (pc : Int) + off = (tgt : Int)) (h : pm_P k tgt L st A Q) : pm_P k pc L (.int x :: st) A Q := by
  intro p l e s m args below meth c ad D tyc H locs ls C hP hS hL
  exact lv_tableIn C.1 C.2.1 hd h1 h2 ho ht (h p l e s m args below meth c ad D tyc H locs ls C hP hS hL)
theorem pm_sub {L2 : Lcs} (hs : ∀ q ∈ L2, q ∈ L) (h : pm_P k pc L2 st A Q) : pm_P k pc L st A Q := by
  intro p l e s m args below meth c ad D tyc H locs ls C hP hS hL
  refine h p l e s m args below meth c ad D tyc H locs ls C hP hS (pm_has_sub hL fun q hq => ?_)
  obtain ⟨r, hr, rfl⟩ := List.mem_map.mp hq
  exact List.mem_map.mpr ⟨r, hs r hr, rfl⟩
theorem pm_pick {L2 : Lcs} (is : List Nat) (hs : is.filterMap (fun i => L[i]?) = L2) (h : pm_P k pc L2 st A Q) : pm_P k pc L st A Q := by
  refine pm_sub (fun q hq => ?_) h
  subst hs
  obtain ⟨i, -, hi⟩ := List.mem_filterMap.mp hq
  exact List.mem_of_getElem? hi
theorem pm_post {Q2 : Int32 → Mem → Prop} (h : pm_P k pc L st A Q2) (hq : ∀ r A2, Q2 r A2 → Q r A2) : pm_P k pc L st A Q := by
  intro p l e s m args below meth c ad D tyc H locs ls C hP hS hL
  intro T hT X
  obtain ⟨t, a, o, b1, b2, b3, b4⟩ := h p l e s m args below meth c ad D tyc H locs ls C hP hS hL T hT X
  refine ⟨t, a, o, b1, b2, ?_, b4⟩
  revert b3
  unfold pm_Q
  cases pm_r k <;> intro b3
  · obtain ⟨⟨u, c1, c2, c3⟩, c4⟩ := b3
    exact ⟨⟨u, c1, hq _ _ c2, c3⟩, c4⟩
  · obtain ⟨⟨r, u, c1, c2, c3⟩, c4⟩ := b3
    exact ⟨⟨r, u, c1, hq _ _ c2, c3⟩, c4⟩
theorem pm_iret {v : Int32} {ty : FieldType} (hd : decode (pm_c k) pc = .ok (.ireturn, 1)) (hr : pm_r k = some ty) (hn : narrow ty (.int v) = .int v) (hq : Q v A) : pm_P k pc L [.int v] A Q := by
  intro p l e s m args below meth c ad D tyc H locs ls C hP hS hL
  obtain ⟨hx, hb, hret, hml, hown, hts, hlk, hK, hin, hok, hcl⟩ := C
  refine W.zret (v := v) hx hb (hret.trans hr) hn (fun t ht hW => ?_) hS.2.2 hd hlk
  unfold pm_Q
  rw [hr]
  exact ⟨⟨v, A, rfl, hq, by rw [ht]; exact hP, va_K.moved hW.alike hK⟩, hS.F ht⟩
theorem pm_vret (hd : decode (pm_c k) pc = .ok (.return_, 1)) (hr : pm_r k = none) (hq : Q 0 A) : pm_P k pc L [] A Q := by
  intro p l e s m args below meth c ad D tyc H locs ls C hP hS hL
  obtain ⟨hx, hb, hret, hml, hown, hts, hlk, hK, hin, hok, hcl⟩ := C
  refine W.vret hx hb (hret.trans hr) (fun t ht hW => ?_) hS.2.2 hd hlk
  unfold pm_Q
  rw [hr]
  exact ⟨⟨A, rfl, hq, by rw [ht]; exact hP, va_K.moved hW.alike hK⟩, hS.F ht⟩
theorem pm_field {ad : Nat → Nat} {a : Nat → Int32} {sl : List (Option Nat)} {j : Nat} {x : Option Nat} (hj : sl[j]? = some x) : (sl.mapIdx (pm_fv ad a))[j]? = some (pm_fv ad a j x) := by
  simp [List.getElem?_mapIdx, hj]
theorem pm_getV {idx ci j b : Nat} {sl : List (Option Nat)} {x : Option Nat} (hd : decode (pm_c k) pc = .ok (.getfield idx, 3)) (hl : pm_LF (pm_o k) idx ci j) (hs : (pm_sh (pm_wo k))[b]? = some (.inl (ci, sl))) (hj : sl[j]? = some x) (h : pm_P k (pc + 3) L (pm_fv (fun i => i) (A b) j x :: st) A Q) : pm_P k pc L (.ref b :: st) A Q := by
  intro p l e s m args below meth c ad D tyc H locs ls C hP hS hL
  have hgo := h p l e s m args below meth c ad D tyc H locs ls C hP hS hL
  obtain ⟨hx, hb, hret, hml, hown, hts, hlk, hK, hin, hok, hcl⟩ := C
  obtain ⟨q, hq, hlt, hw⟩ := hl
  rw [← hok.2.2.1] at hw
  refine va_get (D := D) (ci := ci) (C := q.1) (T := q.2.1) (N := q.2.2) (Ts := pm_ws k) (own := (pm_y k).cls) hx hb hts (fun w h => List.mem_cons_of_mem _ ((hcl ci q hq).1 w h)) hown hK hP b (pm_w_get hs) hq j hlt (pm_hts hts hw) (fun _ h9 => h9) (pm_field (ad := ad) (a := A b) hj) hd ?_
  cases x <;> exact hgo
theorem pm_getI {idx ci j b : Nat} {sl : List (Option Nat)} (hd : decode (pm_c k) pc = .ok (.getfield idx, 3)) (hl : pm_LF (pm_o k) idx ci j) (hs : (pm_sh (pm_wo k))[b]? = some (.inl (ci, sl))) (hj : sl[j]? = some none) (h : pm_P k (pc + 3) L (.int (A b j) :: st) A Q) : pm_P k pc L (.ref b :: st) A Q := pm_getV hd hl hs hj h
theorem pm_getR {idx ci j b t : Nat} {sl : List (Option Nat)} (hd : decode (pm_c k) pc = .ok (.getfield idx, 3)) (hl : pm_LF (pm_o k) idx ci j) (hs : (pm_sh (pm_wo k))[b]? = some (.inl (ci, sl))) (hj : sl[j]? = some (some t)) (h : pm_P k (pc + 3) L (.ref t :: st) A Q) : pm_P k pc L (.ref b :: st) A Q := pm_getV hd hl hs hj h
theorem pm_fset {ad : Nat → Nat} {tyc : Nat → ClassId} {A : Mem} {ci b j : Nat} {v : Int32} {sl : List (Option Nat)} (hj : sl[j]? = some none) : (Sum.inr (ci, (sl.mapIdx (pm_fv ad (A b))).set j (.int v)) : va_E) = pm_e ad tyc (mset A b j v b) (.inl (ci, sl)) := by
  show (Sum.inr (ci, _) : va_E) = Sum.inr (ci, _)
  congr 2
  apply List.ext_getElem?
  intro i
  rw [List.getElem?_set]
  by_cases h : j = i
  · subst h
    have hl : j < sl.length := (List.getElem?_eq_some_iff.mp hj).1
    have h2 : sl[j] = none := by
      have := List.getElem?_eq_getElem hl
      rw [hj] at this
      exact (Option.some.inj this).symm
    simp [List.getElem?_mapIdx, hl, h2, pm_fv, mset]
  · rw [if_neg h]
    simp only [List.getElem?_mapIdx]
    cases sl[i]? with
    | none => rfl
    | some x => cases x <;> simp [pm_fv, mset, Ne.symm h]
theorem pm_putI {idx ci j b : Nat} {v : Int32} {sl : List (Option Nat)} (hd : decode (pm_c k) pc = .ok (.putfield idx, 3)) (hl : pm_LP (pm_o k) idx ci j) (hs : (pm_sh (pm_wo k))[b]? = some (.inl (ci, sl))) (hj : sl[j]? = some none) (h : pm_P k (pc + 3) L st (mset A b j v) Q) : pm_P k pc L (.int v :: .ref b :: st) A Q := by
  intro p l e s m args below meth c ad D tyc H locs ls C hP hS hL
  have hC := C
  obtain ⟨hx, hb, hret, hml, hown, hts, hlk, hK, hin, hok, hcl⟩ := C
  obtain ⟨q, hq, hlt, hw, hnf, hI⟩ := hl
  rw [← hok.2.2.1] at hw
  obtain ⟨hu, ⟨ty0, hty⟩, hnm⟩ := hcl ci q hq
  refine va_put (D := D) (ci := ci) (C := q.1) (T := q.2.1) (N := q.2.2) (Ts := pm_ws k) (own := (pm_y k).cls) (ty := .int) (v := .int v) hx hb hts (fun w h => List.mem_cons_of_mem _ (hu w h)) ty0 hty hnm hown hK hP (pm_w_D hin) hS b (pm_w_get hs) hq j hlt (pm_hts hts hw) (fun _ h9 => h9) hnf (by rw [hI]; decide +kernel) rfl rfl (by simpa using (List.getElem?_eq_some_iff.mp hj).1) hd (fun H1 locs1 hP1 hD1 hS1 => ?_)
  rw [pm_w_set hs (A2 := mset A b j v) (pm_fset (ad := ad) (tyc := tyc) (A := A) (b := b) hj) (fun c hc => mset_other hc)] at hP1
  exact h p l e s m args below meth c ad D tyc H1 locs1 ls hC hP1 hS1 hL
theorem pm_iald {b len : Nat} {i : Int32} (hd : decode (pm_c k) pc = .ok (.iaload, 1)) (hs : (pm_sh (pm_wo k))[b]? = some (.inr (0, len))) (hi : vp_in i len) (h : pm_P k (pc + 1) L (.int (A b i.toNatClampNeg) :: st) A Q) : pm_P k pc L (.int i :: .ref b :: st) A Q := by
  intro p l e s m args below meth c ad D tyc H locs ls C hP hS hL
  exact va_iald C.1 C.2.1 C.2.2.2.2.2.2.2.1 hP b 0 (pm_w_get hs) rfl hi hd (h p l e s m args below meth c ad D tyc H locs ls C hP hS hL)
theorem pm_zald {b len : Nat} {i : Int32} (hd : decode (pm_c k) pc = .ok (.baload, 1)) (hs : (pm_sh (pm_wo k))[b]? = some (.inr (2, len))) (hi : vp_in i len) (h : pm_P k (pc + 1) L (.int (A b i.toNatClampNeg) :: st) A Q) : pm_P k pc L (.int i :: .ref b :: st) A Q := by
  intro p l e s m args below meth c ad D tyc H locs ls C hP hS hL
  exact va_zald C.1 C.2.1 C.2.2.2.2.2.2.2.1 hP b 2 (pm_w_get hs) rfl hi hd (h p l e s m args below meth c ad D tyc H locs ls C hP hS hL)
theorem pm_cald {b len : Nat} {i : Int32} (hd : decode (pm_c k) pc = .ok (.caload, 1)) (hs : (pm_sh (pm_wo k))[b]? = some (.inr (3, len))) (hi : vp_in i len) (h : pm_P k (pc + 1) L (.int (A b i.toNatClampNeg) :: st) A Q) : pm_P k pc L (.int i :: .ref b :: st) A Q := by
  intro p l e s m args below meth c ad D tyc H locs ls C hP hS hL
  exact va_cald C.1 C.2.1 C.2.2.2.2.2.2.2.1 hP b 3 (pm_w_get hs) rfl hi hd (h p l e s m args below meth c ad D tyc H locs ls C hP hS hL)
theorem pm_iast {b len : Nat} {i x : Int32} (hd : decode (pm_c k) pc = .ok (.iastore, 1)) (hs : (pm_sh (pm_wo k))[b]? = some (.inr (0, len))) (hi : vp_in i len) (h : pm_P k (pc + 1) L st (mset A b i.toNatClampNeg x) Q) : pm_P k pc L (.int x :: .int i :: .ref b :: st) A Q := by
  intro p l e s m args below meth c ad D tyc H locs ls C hP hS hL
  refine va_iast C.1 C.2.1 C.2.2.2.2.2.2.2.1 hP (pm_w_D C.2.2.2.2.2.2.2.2.1) hS b 0 (pm_w_get hs) rfl hi hd (fun H1 locs1 hP1 hD1 hS1 => ?_)
  rw [pm_w_set hs (A2 := mset A b i.toNatClampNeg x) (by rw [mset_row]; rfl) (fun c hc => mset_other hc)] at hP1
  exact h p l e s m args below meth c ad D tyc H1 locs1 ls C hP1 hS1 hL
theorem pm_zast {b len : Nat} {i x : Int32} (hd : decode (pm_c k) pc = .ok (.bastore, 1)) (hs : (pm_sh (pm_wo k))[b]? = some (.inr (2, len))) (hi : vp_in i len) (h : pm_P k (pc + 1) L st (mset A b i.toNatClampNeg (vp_nar .boolean x)) Q) : pm_P k pc L (.int x :: .int i :: .ref b :: st) A Q := by
  intro p l e s m args below meth c ad D tyc H locs ls C hP hS hL
  refine va_zast C.1 C.2.1 C.2.2.2.2.2.2.2.1 hP (pm_w_D C.2.2.2.2.2.2.2.2.1) hS b 2 (pm_w_get hs) rfl hi hd (fun H1 locs1 hP1 hD1 hS1 => ?_)
  rw [pm_w_set hs (A2 := mset A b i.toNatClampNeg (vp_nar .boolean x)) (by rw [mset_row]; rfl) (fun c hc => mset_other hc)] at hP1
  exact h p l e s m args below meth c ad D tyc H1 locs1 ls C hP1 hS1 hL
theorem pm_cast {b len : Nat} {i x : Int32} (hd : decode (pm_c k) pc = .ok (.castore, 1)) (hs : (pm_sh (pm_wo k))[b]? = some (.inr (3, len))) (hi : vp_in i len) (h : pm_P k (pc + 1) L st (mset A b i.toNatClampNeg (vp_nar .char x)) Q) : pm_P k pc L (.int x :: .int i :: .ref b :: st) A Q := by
  intro p l e s m args below meth c ad D tyc H locs ls C hP hS hL
  refine va_cast C.1 C.2.1 C.2.2.2.2.2.2.2.1 hP (pm_w_D C.2.2.2.2.2.2.2.2.1) hS b 3 (pm_w_get hs) rfl hi hd (fun H1 locs1 hP1 hD1 hS1 => ?_)
  rw [pm_w_set hs (A2 := mset A b i.toNatClampNeg (vp_nar .char x)) (by rw [mset_row]; rfl) (fun c hc => mset_other hc)] at hP1
  exact h p l e s m args below meth c ad D tyc H1 locs1 ls C hP1 hS1 hL
theorem pm_aald {b len : Nat} {i : Int32} (hd : decode (pm_c k) pc = .ok (.aaload, 1)) (hs : (pm_sh (pm_wo k))[b]? = some (.inr (4, len))) (hi : vp_in i len) (h : pm_P k (pc + 1) L (.ref (A b i.toNatClampNeg).toNatClampNeg :: st) A Q) : pm_P k pc L (.int i :: .ref b :: st) A Q := by
  intro p l e s m args below meth c ad D tyc H locs ls C hP hS hL
  exact va_aldq (C := RX6) C.1 C.2.1 C.2.2.2.2.2.2.2.1 hP b 4 (pm_w_get hs) rfl hi hd (h p l e s m args below meth c ad D tyc H locs ls C hP hS hL)
theorem pm_aast {b len v : Nat} {i : Int32} {sl : List (Option Nat)} (hd : decode (pm_c k) pc = .ok (.aastore, 1)) (hs : (pm_sh (pm_wo k))[b]? = some (.inr (4, len))) (hv : (pm_sh (pm_wo k))[v]? = some (.inl (6, sl))) (hv2 : (nI v).toNatClampNeg = v) (hi : vp_in i len) (h : pm_P k (pc + 1) L st (mset A b i.toNatClampNeg (nI v)) Q) : pm_P k pc L (.ref v :: .int i :: .ref b :: st) A Q := by
  intro p l e s m args below meth c ad D tyc H locs ls C hP hS hL
  refine va_astq (r := (RX6, TX6, 7)) C.1 C.2.1 C.2.2.2.2.2.2.2.1 hP (pm_w_D C.2.2.2.2.2.2.2.2.1) hS b 4 v 6 (pm_w_get hs) rfl (pm_w_get hv) rfl hi hd (fun H1 locs1 hP1 hD1 hS1 => ?_)
  rw [pm_w_set hs (A2 := mset A b i.toNatClampNeg (nI v)) (by
    rw [mset_row]
    show (Sum.inl (tyc 4, len, _) : va_E) = Sum.inl (tyc 4, len, if 4 = 4 then _ else _)
    rw [if_pos rfl]
    congr 7
    funext j
    by_cases hj : j = i.toNatClampNeg <;> simp [va_up, upd, hj, hv2]) (fun c hc => mset_other hc)] at hP1
  exact h p l e s m args below meth c ad D tyc H1 locs1 ls C hP1 hS1 hL
theorem pm_alen {b len t : Nat} {v : Int32} {ty : FieldType} (hd : decode (pm_c k) pc = .ok (.arraylength, 1)) (hs : (pm_sh (pm_wo k))[b]? = some (.inr (t, len))) (ht : ∀ tyc, (pm_ts tyc)[t]? = some (tyc t, ty)) (hv : Int32.ofNat len = v) (h : pm_P k (pc + 1) L (.int v :: st) A Q) : pm_P k pc L (.ref b :: st) A Q := by
  intro p l e s m args below meth c ad D tyc H locs ls C hP hS hL
  exact va_alen C.1 C.2.1 C.2.2.2.2.2.2.2.1 hP b t (pm_w_get hs) (ht tyc) hv hd (h p l e s m args below meth c ad D tyc H locs ls C hP hS hL)
end PMR
