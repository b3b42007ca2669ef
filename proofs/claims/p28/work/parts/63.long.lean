/-! pl_P: as pm_P, of a method that answers a long; and the rows that the law's own methods want -/
def pl_Q (k : Nat) (ad : Nat → Nat) (D : va_G) (tyc : Nat → ClassId) (Q : Int64 → Mem → Prop) : Array Value → State → Outcome → State → Prop := va_Ql (fun (r : Int64) (A : Mem) => Q r A) (pm_B (pm_wo k) ad D tyc) (pm_A (pm_wo k) ad)
def pl_P (k pc : Nat) (L : Lcs) (st : List Value) (A : Mem) (Q : Int64 → Mem → Prop) : Prop :=
  ∀ (p : Program) (l : Launch) (e : Env) (s : State) (m : MethodId) (args : Array Value) (below : List Frame) (meth : Method) (c : Code) (ad : Nat → Nat) (D : va_G) (tyc : Nat → ClassId) (H : Heap) (locs : List Loc) (ls : Array Slot),
    pm_C k p s m args meth c ad D tyc → va_P D vwCl (pm_w (pm_wo k) ad tyc A) H → va_S (pm_A (pm_wo k) ad) s.heap H locs → lv_has ls (pm_l k) (L.map (fun q => (q.1, tv ad q.2))) →
    W p l e (pm_rm k) s m args below meth c H locs 0 0 (MQ below (pl_Q k ad D tyc Q) args s 0 0 (pm_A (pm_wo k) ad)) (F0 m pc ls (st.map (tv ad)))
section PIR
variable {k pc : Nat} {L : Lcs} {st : List Value} {A : Mem} {Q : Int32 → Mem → Prop}
theorem pm_irem {x y : Int32} (hd : decode (pm_c k) pc = .ok (.irem, 1)) (hy : ¬ y = 0) (h : pm_P k (pc + 1) L (.int (x - x / y * y) :: st) A Q) : pm_P k pc L (.int y :: .int x :: st) A Q := by
  intro p l e s m args below meth c ad D tyc H locs ls C hP hS hL
  exact lv_irem C.1 C.2.1 hd hy (h p l e s m args below meth c ad D tyc H locs ls C hP hS hL)
theorem pm_ldc {idx : Nat} {v : Int32} (hd : decode (pm_c k) pc = .ok (.ldc idx, 2)) (hl : Cond.constant (pm_own (pm_o k)) idx v ∈ pm_W) (h : pm_P k (pc + 2) L (.int v :: st) A Q) : pm_P k pc L st A Q := by
  intro p l e s m args below meth c ad D tyc H locs ls C hP hS hL
  have hw := pm_hts C.2.2.2.2.2.1 hl
  rw [← C.2.2.2.2.2.2.2.2.2.1.2.2.1] at hw
  exact lv_ldc C.1 C.2.1 C.2.2.2.2.1 hw hd (h p l e s m args below meth c ad D tyc H locs ls C hP hS hL)
end PIR
section PLR
variable {k pc : Nat} {L : Lcs} {st : List Value} {A : Mem} {Q : Int64 → Mem → Prop}
theorem pl_iconst {n : Int} {v : Int32} (hd : decode (pm_c k) pc = .ok (.iconst n, 1)) (hv : Int32.ofInt n = v) (h : pl_P k (pc + 1) L (.int v :: st) A Q) : pl_P k pc L st A Q := by
  intro p l e s m args below meth c ad D tyc H locs ls C hP hS hL
  exact lv_iconst C.1 C.2.1 hd hv (h p l e s m args below meth c ad D tyc H locs ls C hP hS hL)
theorem pl_bipush {n : Int} {v : Int32} (hd : decode (pm_c k) pc = .ok (.bipush n, 2)) (hv : (Int8.ofInt n).toInt32 = v) (h : pl_P k (pc + 2) L (.int v :: st) A Q) : pl_P k pc L st A Q := by
  intro p l e s m args below meth c ad D tyc H locs ls C hP hS hL
  exact lv_bipush C.1 C.2.1 hd hv (h p l e s m args below meth c ad D tyc H locs ls C hP hS hL)
theorem pl_iload_n {j : Fin 4} {i : Nat} {x : Int32} (hd : decode (pm_c k) pc = .ok (.iload_n j, 1)) (hi : (j : Nat) = i) (hl : pm_g L i = some (.int x)) (h : pl_P k (pc + 1) L (.int x :: st) A Q) : pl_P k pc L st A Q := by
  intro p l e s m args below meth c ad D tyc H locs ls C hP hS hL
  exact lv_iload_n C.1 C.2.1 hd hi (pm_read hL hl) (h p l e s m args below meth c ad D tyc H locs ls C hP hS hL)
theorem pl_aload_n {j : Fin 4} {i : Nat} {x : Nat} (hd : decode (pm_c k) pc = .ok (.aload_n j, 1)) (hi : (j : Nat) = i) (hl : pm_g L i = some (.ref x)) (h : pl_P k (pc + 1) L (.ref x :: st) A Q) : pl_P k pc L st A Q := by
  intro p l e s m args below meth c ad D tyc H locs ls C hP hS hL
  exact lv_aload_n C.1 C.2.1 hd hi (pm_read hL hl) (h p l e s m args below meth c ad D tyc H locs ls C hP hS hL)
theorem pl_istore_n {j : Fin 4} {i : Nat} {x : Int32} {L2 : Lcs} (hd : decode (pm_c k) pc = .ok (.istore_n j, 1)) (hi : (j : Nat) = i) (hn : i < pm_l k) (hs : pm_s1 L i (.int x) = L2) (h : pl_P k (pc + 1) L2 st A Q) : pl_P k pc L (.int x :: st) A Q := by
  intro p l e s m args below meth c ad D tyc H locs ls C hP hS hL
  subst hs
  exact lv_istore_n C.1 C.2.1 hd hi hL hn rfl (fun ls2 hL2 => (h p l e s m args below meth c ad D tyc H locs ls2 C hP hS (pm_st1 hL2)))
theorem pl_lload_n {j : Fin 4} {i : Nat} {x : Int64} (hd : decode (pm_c k) pc = .ok (.lload_n j, 1)) (hi : (j : Nat) = i) (hl : pm_g L i = some (.long x)) (h : pl_P k (pc + 1) L (.long x :: st) A Q) : pl_P k pc L st A Q := by
  intro p l e s m args below meth c ad D tyc H locs ls C hP hS hL
  exact lv_lload_n C.1 C.2.1 hd hi (pm_read hL hl) (h p l e s m args below meth c ad D tyc H locs ls C hP hS hL)
theorem pl_lstore_n {j : Fin 4} {i : Nat} {x : Int64} {L2 : Lcs} (hd : decode (pm_c k) pc = .ok (.lstore_n j, 1)) (hi : (j : Nat) = i) (hn : i + 1 < pm_l k) (hs : pm_s2 L i (.long x) = L2) (h : pl_P k (pc + 1) L2 st A Q) : pl_P k pc L (.long x :: st) A Q := by
  intro p l e s m args below meth c ad D tyc H locs ls C hP hS hL
  subst hs
  exact lv_lstore_n C.1 C.2.1 hd hi hL hn rfl (fun ls2 hL2 => (h p l e s m args below meth c ad D tyc H locs ls2 C hP hS (pm_st2 hL2)))
theorem pl_iinc {i : Nat} {n : Int} {x v : Int32} {L2 : Lcs} (hd : decode (pm_c k) pc = .ok (.iinc i n, 3)) (hl : pm_g L i = some (.int x)) (hv : x + Int32.ofInt n = v) (hn : i < pm_l k) (hs : pm_s1 L i (.int v) = L2) (h : pl_P k (pc + 3) L2 st A Q) : pl_P k pc L st A Q := by
  intro p l e s m args below meth c ad D tyc H locs ls C hP hS hL
  subst hs
  have hm : (i, tv ad (.int x)) ∈ L.map (fun q => (q.1, tv ad q.2)) := List.mem_map.mpr ⟨(i, .int x), pm_g_mem hl, rfl⟩
  obtain ⟨q, hq⟩ := List.getElem?_of_mem hm
  exact lv_iinc C.1 C.2.1 hd hL (k := q) hq hv hn rfl (fun ls2 hL2 => (h p l e s m args below meth c ad D tyc H locs ls2 C hP hS (pm_st1 hL2)))
theorem pl_ldc2 {idx : Nat} {v : Int64} (hd : decode (pm_c k) pc = .ok (.ldc2_w idx, 3)) (hl : pm_LL (pm_o k) idx v) (h : pl_P k (pc + 3) L (.long v :: st) A Q) : pl_P k pc L st A Q := by
  intro p l e s m args below meth c ad D tyc H locs ls C hP hS hL
  have hw := pm_hts C.2.2.2.2.2.1 hl
  rw [← C.2.2.2.2.2.2.2.2.2.1.2.2.1] at hw
  exact lv_ldc2 C.1 C.2.1 C.2.2.2.2.1 hw hd (h p l e s m args below meth c ad D tyc H locs ls C hP hS hL)
theorem pl_lmul {x y : Int64} (hd : decode (pm_c k) pc = .ok (.lmul, 1)) (h : pl_P k (pc + 1) L (.long (x * y) :: st) A Q) : pl_P k pc L (.long y :: .long x :: st) A Q := by
  intro p l e s m args below meth c ad D tyc H locs ls C hP hS hL
  exact lv_lmul C.1 C.2.1 hd (h p l e s m args below meth c ad D tyc H locs ls C hP hS hL)
theorem pl_i2l {x : Int32} {v : Int64} (hd : decode (pm_c k) pc = .ok (.i2l, 1)) (hv : x.toInt64 = v) (h : pl_P k (pc + 1) L (.long v :: st) A Q) : pl_P k pc L (.int x :: st) A Q := by
  intro p l e s m args below meth c ad D tyc H locs ls C hP hS hL
  exact lv_i2l C.1 C.2.1 hd hv (h p l e s m args below meth c ad D tyc H locs ls C hP hS hL)
theorem pl_goto {off : Int} {tgt : Nat} (hd : decode (pm_c k) pc = .ok (.goto off, 3)) (ht : (pc : Int) + off = (tgt : Int)) (h : pl_P k tgt L st A Q) : pl_P k pc L st A Q := by
  intro p l e s m args below meth c ad D tyc H locs ls C hP hS hL
  exact lv_goto C.1 C.2.1 hd ht (h p l e s m args below meth c ad D tyc H locs ls C hP hS hL)
theorem pl_icmp_ne {x y : Int32} {off : Int} {tgt : Nat} (hd : decode (pm_c k) pc = .ok (.if_icmp .ne off, 3)) (ht : (pc : Int) + off = (tgt : Int)) (kt : ¬ x = y → pl_P k tgt L st A Q) (kf : x = y → pl_P k (pc + 3) L st A Q) : pl_P k pc L (.int y :: .int x :: st) A Q := by
  intro p l e s m args below meth c ad D tyc H locs ls C hP hS hL
  exact lv_icmp_ne C.1 C.2.1 hd ht (fun q => (kt q p l e s m args below meth c ad D tyc H locs ls C hP hS hL)) (fun q => (kf q p l e s m args below meth c ad D tyc H locs ls C hP hS hL))
theorem pl_icmp_ge {x y : Int32} {off : Int} {tgt : Nat} (hd : decode (pm_c k) pc = .ok (.if_icmp .ge off, 3)) (ht : (pc : Int) + off = (tgt : Int)) (kt : y ≤ x → pl_P k tgt L st A Q) (kf : ¬ y ≤ x → pl_P k (pc + 3) L st A Q) : pl_P k pc L (.int y :: .int x :: st) A Q := by
  intro p l e s m args below meth c ad D tyc H locs ls C hP hS hL
  exact lv_icmp_ge C.1 C.2.1 hd ht (fun q => (kt q p l e s m args below meth c ad D tyc H locs ls C hP hS hL)) (fun q => (kf q p l e s m args below meth c ad D tyc H locs ls C hP hS hL))
theorem pl_sub {L2 : Lcs} (hs : ∀ q ∈ L2, q ∈ L) (h : pl_P k pc L2 st A Q) : pl_P k pc L st A Q := by
  intro p l e s m args below meth c ad D tyc H locs ls C hP hS hL
  refine h p l e s m args below meth c ad D tyc H locs ls C hP hS (pm_has_sub hL fun q hq => ?_)
  obtain ⟨r, hr, rfl⟩ := List.mem_map.mp hq
  exact List.mem_map.mpr ⟨r, hs r hr, rfl⟩
theorem pl_pick {L2 : Lcs} (is : List Nat) (hs : is.filterMap (fun i => L[i]?) = L2) (h : pl_P k pc L2 st A Q) : pl_P k pc L st A Q := by
  refine pl_sub (fun q hq => ?_) h
  subst hs
  obtain ⟨i, -, hi⟩ := List.mem_filterMap.mp hq
  exact List.mem_of_getElem? hi
theorem pl_ladd {x y : Int64} (hd : decode (pm_c k) pc = .ok (.ladd, 1)) (h : pl_P k (pc + 1) L (.long (x + y) :: st) A Q) : pl_P k pc L (.long y :: .long x :: st) A Q := by
  intro p l e s m args below meth c ad D tyc H locs ls C hP hS hL
  exact lv_ladd C.1 C.2.1 hd (h p l e s m args below meth c ad D tyc H locs ls C hP hS hL)
theorem pl_lret {v : Int64} (hd : decode (pm_c k) pc = .ok (.lreturn, 1)) (hr : pm_r k = some .long) (hq : Q v A) : pl_P k pc L [.long v] A Q := by
  intro p l e s m args below meth c ad D tyc H locs ls C hP hS hL
  obtain ⟨hx, hb, hret, hml, hown, hts, hlk, hK, hin, hok, hcl⟩ := C
  refine W.lret (v := v) hx hb (hret.trans hr) (fun t ht hW => ?_) hS.2.2 hd hlk
  exact ⟨⟨v, A, rfl, hq, by rw [ht]; exact hP, va_K.moved hW.alike hK⟩, hS.F ht⟩
/-- a virtual call that answers an int -/
theorem pl_callV {k2 idx b ci : Nat} {sl : List (Option Nat)} {As rest st : List Value} {ty : FieldType} {r : vw_C} (hd : decode (pm_c k) pc = .ok (.invokevirtual idx, 3)) (hl : pm_LV (pm_o k) idx k2) (hok : pm_ok k2) (hr : pm_r k2 = some ty) (hst : st = As.reverse ++ .ref b :: rest) (hn : As.length + 1 = pm_na k2) (hmx : As.length + 1 ≤ pm_l k2) (hcat : As.all (fun v => v.category == 1) = true) (hw : pm_wo k2 = pm_wo k) (hs : (pm_sh (pm_wo k))[b]? = some (.inl (ci, sl))) (hci : vwCl[ci]? = some r) (hC : r.1 = (pm_y k2).cls) (hR : pm_rok k k2) (hc : (rest.map fun v => v.category).sum ≤ 8)
    (h : pm_P k2 0 (pm_ent 0 (.ref b :: As)) [] A (fun r1 A1 => pl_P k (pc + 3) L (.int r1 :: rest) A1 Q)) : pl_P k pc L st A Q := by
  intro p l e s m args below meth c ad D tyc H locs ls C hP hS hL
  have hCC := C
  obtain ⟨hx, hb, hret, hml, hown, hts, hlk, hK, hin, hokk, hcl⟩ := C
  have hin2 : pm_inj (pm_wo k2) ad := by rw [hw]; exact hin
  have hM := pm_met hok hcl h (by simpa using hmx) (by rw [List.all_cons, hcat]; rfl) l ad D tyc hin2
  rw [pm_Qi_eq hr, hw] at hM
  obtain ⟨w1, w2, w3, w4⟩ := hl
  rw [← hokk.2.2.1] at w1
  have hT : GoodIn (pm_ws k) (wsV (pm_y k).cls idx (pm_y k2).cls (pm_y k2) (pm_ws k2)) := by
    intro w hw9
    rcases List.mem_append.mp hw9 with h9 | h9
    · have h8 : w ∈ pm_W := by
        simp only [List.mem_cons, List.not_mem_nil, or_false] at h9
        rcases h9 with rfl | rfl | rfl | rfl
        · exact w1
        · exact w2
        · exact w3
        · exact hok.2.2.2.1
      exact ⟨List.mem_cons_of_mem _ h8, good_of_word (List.mem_filter.mp h8).2⟩
    · exact pm_good k2 hok w h9
  have hnn : (parseMethodDescriptor (pm_y k2).desc).map (fun d => d.parameters.length) = some As.length := by
    cases hp : parseMethodDescriptor (pm_y k2).desc with
    | none => rw [hp] at w4; cases w4
    | some d =>
      rw [hp] at w4
      have h1 : d.parameters.length + 1 = pm_na k2 := Option.some.inj w4
      show some d.parameters.length = some As.length
      congr 1
      omega
  have cw := cwV (R := pm_rm k) (mc := 0) (ms := 0) (rm := pm_rm k2) As.length hts hT rfl rfl rfl ⟨rfl, hok.2.2.2.2.1, hok.2.2.2.2.2, hnn⟩ hR
  subst hst
  rw [show (As.reverse ++ Value.ref b :: rest).map (tv ad) = (As.map (tv ad)).reverse ++ Value.ref (ad b) :: rest.map (tv ad) by simp [tv]]
  refine va_calli (va_runV (As := As.map (tv ad)) (rest := rest.map (tv ad)) ⟨hx, hb, hml, hown, hts⟩ hM cw ⟨pm_blind (as := .ref b :: As), by rw [← hC]; exact va_recv hK hP (ci := ci) (q0 := b) hci (pm_w_get hs), fun U hU hW => ⟨rfl, by rw [hU]; exact hP, va_K.moved hW.alike hK⟩⟩ rfl (by simp) hL.1 rfl (lv_room (by rw [pm_catsum]; exact hc)) hd ⟨Nat.zero_le _, Nat.zero_le _⟩) hS (fun q _ h => h) (fun q h => h) (fun r1 u t H1 locs1 ht hvm hq hB hz hk1 hS1 => ?_)
  obtain ⟨hB1, hB2⟩ := hB
  rw [ht] at hB1
  exact hq p l e s m args below meth c ad D tyc H1 locs1 ls hCC hB1 hS1 hL
end PLR
theorem pl_met {k : Nat} {as : List Value} {A : Mem} {Q : Int64 → Mem → Prop} (hok : pm_ok k) (hcl : pm_cls) (hP : pl_P k 0 (pm_ent 0 as) [] A Q) (hlen : as.length ≤ pm_l k) (hcat : as.all (fun v => v.category == 1) = true) (l : Launch) (ad : Nat → Nat) (D : va_G) (tyc : Nat → ClassId) (hinj : pm_inj (pm_wo k) ad) :
    Met l (pm_y k) (pm_ws k) (pm_rm k) (va_Pc (as.map (tv ad)) (fun U => va_P D vwCl (pm_w (pm_wo k) ad tyc A) U.heap ∧ va_K D vwCl (pm_ts tyc) U)) (pl_Q k ad D tyc Q) 0 0 (pm_A (pm_wo k) ad) := by
  refine Met.ofW (cc := pm_c k) (maxL := pm_l k) (ret := pm_r k) hok.2.1 rfl ?_
  intro p e s m args below meth c s₁ B hml hv
  obtain ⟨rfl, hPw, hK⟩ := hv
  have hts := atoms_spec (ws := pm_ws k) B.pre
  have hown : s.vm.findClass (pm_y k).cls = some m.cls := findClass_of_methodNamed B.named
  have hl := lv_entry (as.map (tv ad)) (n := pm_l k) (by rw [pm_sl_len ad as hcat]; exact hlen)
  rw [lg_entry_eq]
  rw [pm_ent_map ad as 0 hcat] at hl
  exact hP p l e s m _ below meth c ad D tyc s.heap [] _ ⟨B.exec, B.bytes, B.returns, hml, hown, hts, B.notSynchronized, hK, hinj, hok, hcl⟩ hPw va_S.rf hl
/-- a script's number, or what stands for it -/
def cellV (L : Nat) (xs : Nat → Int32) (i : Nat) : Int32 := if i < L then xs i else 7919 * (nI i + 3) * (nI i + 11)
def ce_P (b L i : Nat) (xs : Nat → Int32) : Array Value → State → Prop := va_Pc [.ref b, .int (nI i)] (fun U => va_X b L xs U U.heap ∧ b < U.heap.size)
def ce_Q (L i : Nat) (xs : Nat → Int32) : Array Value → State → Outcome → State → Prop := va_Qi (fun (r : Int32) (_ : Unit) => r = cellV L xs i) (fun _ _ => True) (fun _ => False)
theorem ce_blind {b L i : Nat} {xs : Nat → Int32} : FrameBlind (ce_P b L i xs) := fun a U g mk q => by
  obtain ⟨q0, qX, qb⟩ := q
  exact ⟨q0, va_X.moved (u := U) (U := U.calling g mk a) (Vm.Alike.refl U.vm) qX, qb⟩
theorem ce_met {b L i : Nat} {xs : Nat → Int32} (hL9 : L ≤ 260) (hi9 : i < 2 ^ 30) (l : Launch) : Met l (pm_y 188) (pm_ws 188) (pm_rm 188) (ce_P b L i xs) (ce_Q L i xs) 0 0 (fun _ => False) := by
  refine Met.ofW (cc := pm_c 188) (maxL := 2) (ret := some .int) (by decide +kernel) rfl ?_
  intro p e s m args below meth c s₁ B hml hv
  obtain ⟨rfl, hX, hbl⟩ := hv
  have hx := B.exec
  have hb := B.bytes
  have hl := lv_entry ([.ref b, .int (nI i)]) (n := 2) (Nat.le_of_ble_eq_true rfl)
  rw [lg_entry_eq]
  generalize (lg_sl ([.ref b, .int (nI i)]) ++ List.replicate (2 - (lg_sl ([.ref b, .int (nI i)])).length) Slot.unset).toArray = ls at hl ⊢
  have hl : lv_has ls 2 [(0, .ref b), (1, .int (nI i))] := hl
  have hS : va_S (fun _ : Nat => False) s.heap s.heap [] := va_S.rf
  have eL : Int32.ofNat L = nI L := rfl
  refine lv_iload_n hx hb d188_0 rfl (lv_at hl 1 rfl) ?_
  refine lv_aload_n hx hb d188_1 rfl (lv_at hl 0 rfl) ?_
  refine va_slen hx hb hX hbl (fun h => h) hS d188_2 ?_
  refine lv_icmp_ge (tgt := 12) hx hb d188_3 rfl (fun h9 => ?_) (fun h9 => ?_)
  · have h8 : L ≤ i := (nI_le_iff (by omega) (by omega)).mp h9
    refine lv_sipush (v := 7919) hx hb d188_12 (by decide) ?_
    refine lv_iload_n hx hb d188_15 rfl (lv_at hl 1 rfl) ?_
    refine lv_iconst (v := 3) hx hb d188_16 (by decide) ?_
    refine lv_iadd hx hb d188_17 (lv_imul hx hb d188_18 ?_)
    refine lv_iload_n hx hb d188_19 rfl (lv_at hl 1 rfl) ?_
    refine lv_bipush (v := 11) hx hb d188_20 (by decide) ?_
    refine lv_iadd hx hb d188_22 (lv_imul hx hb d188_23 ?_)
    refine W.zret (ty := .int) hx hb B.returns rfl (fun t ht hW => ⟨⟨_, (), rfl, ?_, trivial⟩, hS.F ht⟩) hS.2.2 d188_24 B.notSynchronized
    unfold cellV
    rw [if_neg (by omega)]
  · have h8 : i < L := by
      rcases Nat.lt_or_ge i L with q | q
      · exact q
      · exact absurd ((nI_le_iff (by omega) (by omega)).mpr q) h9
    refine lv_aload_n hx hb d188_6 rfl (lv_at hl 0 rfl) ?_
    refine lv_iload_n hx hb d188_7 rfl (lv_at hl 1 rfl) ?_
    refine va_sld hx hb hX hbl (fun h => h) hS (vp_in_nI h8 (by omega)) d188_8 ?_
    refine lv_goto (tgt := 24) hx hb d188_9 rfl ?_
    refine W.zret (ty := .int) hx hb B.returns rfl (fun t ht hW => ⟨⟨_, (), rfl, ?_, trivial⟩, hS.F ht⟩) hS.2.2 d188_24 B.notSynchronized
    unfold cellV
    rw [if_pos h8, nI_clamp (by omega)]
