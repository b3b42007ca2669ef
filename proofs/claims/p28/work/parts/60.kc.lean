/-! CONSTRUCTORS. kc_P says of a constructor's body what pm_P says of a method's: here the cells lie at real addresses, and the world is a list that grows. -/
def kc_R (k mc ms : Nat) : Room := { frames := (pm_rm k).frames, cells := mc, slots := ms, locals := (pm_rm k).locals }
def kc_B (D : va_G) (tyc : Nat → ClassId) (A0 : Nat → Prop) : va_W → State → Prop := fun w t => va_P D vwCl w t.heap ∧ va_K D vwCl (pm_ts tyc) t ∧ va_D A0 w
/-- private constructors of nest mates, arrays of states: what the tables say of them -/
def kc_nl : List (Nat × Nat × Nat) := [(10, 11, 7), (10, 18, 44), (10, 25, 17), (10, 32, 0), (10, 39, 39), (1, 17, 39), (10, 53, 55), (10, 60, 29), (10, 67, 49), (10, 74, 26)]
def kc_N (s : State) : Prop := (∀ q ∈ kc_nl, va_Nw (.methodLinkNest (pm_own q.1) q.2.1 (pm_y q.2.2) "GeodesicCutter") s) ∧ va_AO RX6 s
theorem kc_N.warm {s U : State} (hW : s.WarmedH U.vm) (h : kc_N s) : kc_N U := ⟨fun q hq => va_Nw.warmM hW (h.1 q hq), va_AO.moved hW.alike h.2⟩
theorem kc_N.same {u U : State} (hv : u.vm = U.vm) (h : kc_N u) : kc_N U := ⟨fun q hq => va_Nw.same rfl hv (h.1 q hq), va_AO.moved (by rw [hv]; exact Vm.Alike.refl U.vm) h.2⟩
def kc_C (D : va_G) (tyc : Nat → ClassId) (k : Nat) (p : Program) (s : State) (m : MethodId) (args : Array Value) (meth : Method) (c : Code) : Prop :=
  p.tables.exec = Jvm.exec ∧ c.code = pm_c k ∧ meth.sig.returnType = none ∧ c.maxLocals = pm_l k ∧ s.vm.findClass (pm_y k).cls = some m.cls ∧ (∀ w ∈ pm_ws k, w.before args s = true) ∧ va_K D vwCl (pm_ts tyc) s ∧ pm_ok k ∧ meth.name = "<init>" ∧ meth.locks = false ∧ kc_N s
def kc_P (D : va_G) (tyc : Nat → ClassId) (k mc ms pc : Nat) (L : Lcs) (st : List Value) (ws : va_W) (n u : Nat) (Q : va_W → Prop) : Prop :=
  ∀ (p : Program) (l : Launch) (e : Env) (s : State) (m : MethodId) (args : Array Value) (below : List Frame) (meth : Method) (c : Code) (A0 : Nat → Prop) (H : Heap) (locs : List Loc) (ls : Array Slot),
    kc_C D tyc k p s m args meth c → va_P D vwCl ws H → va_D A0 ws → (∀ q, s.heap.size ≤ q → A0 q) → va_S A0 s.heap H locs → lv_has ls (pm_l k) L →
    W p l e (kc_R k mc ms) s m args below meth c H locs n u (MQ below (va_Qv Q (kc_B D tyc A0) A0) args s mc ms A0) (F0 m pc ls st)
theorem kc_o1 : Cond.instanceMethod objectInit ∈ pm_W := pm_in 52 (by decide +kernel) (by decide +kernel)
theorem kc_o2 : Cond.code objectInit ⟨#[0xb1]⟩ 1 none ∈ pm_W := pm_in 53 (by decide +kernel) (by decide +kernel)
def kc_nw (ci : Nat) (q : vw_C) : Prop := vwCl[ci]? = some q ∧ Cond.instantiable q.1 q.2.2 ∈ pm_W ∧ Cond.initialized q.1 ∈ pm_W ∧ (∀ w ∈ u_ws q.1 q.2.1 q.2.2, w ∈ pm_W)
theorem kc_arr {D : va_G} {tyc : Nat → ClassId} {s : State} {cA : ClassId} {ty : FieldType} {t : Nat} (hK : va_K D vwCl (pm_ts tyc ++ [(cA, ty)]) s) (ht : (pm_ts tyc)[t]? = some (tyc t, ty)) : cA = tyc t := by
  have hl := (List.getElem?_eq_some_iff.mp ht).1
  have h1 := (hK.2 t (tyc t, ty) (by rw [List.getElem?_append_left hl]; exact ht)).2
  have h2 := (hK.2 (pm_ts tyc).length (cA, ty) (by simp)).2
  cases ty with
  | object C =>
    obtain ⟨_, _, _, _, _, a⟩ := h1
    obtain ⟨_, _, _, _, _, b⟩ := h2
    exact Option.some.inj (b.symm.trans a)
  | _ => exact Option.some.inj ((show s.vm.findClass _ = some cA from h2).symm.trans h1)
section KC
variable {D : va_G} {tyc : Nat → ClassId} {k mc ms pc : Nat} {L : Lcs} {st : List Value} {ws : va_W} {n u : Nat} {Q : va_W → Prop}
theorem kc_iconst {x : Int} {v : Int32} (hd : decode (pm_c k) pc = .ok (.iconst x, 1)) (hv : Int32.ofInt x = v) (h : kc_P D tyc k mc ms (pc + 1) L (.int v :: st) ws n u Q) : kc_P D tyc k mc ms pc L st ws n u Q := by
  intro p l e s m args below meth c A0 H locs ls C hP hD hA hS hL
  exact lv_iconst C.1 C.2.1 hd hv (h p l e s m args below meth c A0 H locs ls C hP hD hA hS hL)
theorem kc_bipush {x : Int} {v : Int32} (hd : decode (pm_c k) pc = .ok (.bipush x, 2)) (hv : (Int8.ofInt x).toInt32 = v) (h : kc_P D tyc k mc ms (pc + 2) L (.int v :: st) ws n u Q) : kc_P D tyc k mc ms pc L st ws n u Q := by
  intro p l e s m args below meth c A0 H locs ls C hP hD hA hS hL
  exact lv_bipush C.1 C.2.1 hd hv (h p l e s m args below meth c A0 H locs ls C hP hD hA hS hL)
theorem kc_sipush {x : Int} {v : Int32} (hd : decode (pm_c k) pc = .ok (.sipush x, 3)) (hv : (Int16.ofInt x).toInt32 = v) (h : kc_P D tyc k mc ms (pc + 3) L (.int v :: st) ws n u Q) : kc_P D tyc k mc ms pc L st ws n u Q := by
  intro p l e s m args below meth c A0 H locs ls C hP hD hA hS hL
  exact lv_sipush C.1 C.2.1 hd hv (h p l e s m args below meth c A0 H locs ls C hP hD hA hS hL)
theorem kc_aload_n {j : Fin 4} {i x : Nat} (hd : decode (pm_c k) pc = .ok (.aload_n j, 1)) (hi : (j : Nat) = i) (hl : (i, Value.ref x) ∈ L) (h : kc_P D tyc k mc ms (pc + 1) L (.ref x :: st) ws n u Q) : kc_P D tyc k mc ms pc L st ws n u Q := by
  intro p l e s m args below meth c A0 H locs ls C hP hD hA hS hL
  exact lv_aload_n C.1 C.2.1 hd hi (hL.2.2 _ hl) (h p l e s m args below meth c A0 H locs ls C hP hD hA hS hL)
theorem kc_iload_n {j : Fin 4} {i : Nat} {x : Int32} (hd : decode (pm_c k) pc = .ok (.iload_n j, 1)) (hi : (j : Nat) = i) (hl : (i, Value.int x) ∈ L) (h : kc_P D tyc k mc ms (pc + 1) L (.int x :: st) ws n u Q) : kc_P D tyc k mc ms pc L st ws n u Q := by
  intro p l e s m args below meth c A0 H locs ls C hP hD hA hS hL
  exact lv_iload_n C.1 C.2.1 hd hi (hL.2.2 _ hl) (h p l e s m args below meth c A0 H locs ls C hP hD hA hS hL)
theorem kc_istore_n {j : Fin 4} {i : Nat} {x : Int32} {L2 : Lcs} (hd : decode (pm_c k) pc = .ok (.istore_n j, 1)) (hi : (j : Nat) = i) (hn : i < pm_l k) (hs : (i, Value.int x) :: L.filter (fun q => !(q.1 == i) && !(q.1 + 1 == i && q.2.category == 2)) = L2) (h : kc_P D tyc k mc ms (pc + 1) L2 st ws n u Q) : kc_P D tyc k mc ms pc L (.int x :: st) ws n u Q := by
  intro p l e s m args below meth c A0 H locs ls C hP hD hA hS hL
  exact lv_istore_n C.1 C.2.1 hd hi hL hn hs (fun ls2 hL2 => h p l e s m args below meth c A0 H locs ls2 C hP hD hA hS hL2)
theorem kc_iinc {i q : Nat} {x : Int} {y v : Int32} {L2 : Lcs} (hd : decode (pm_c k) pc = .ok (.iinc i x, 3)) (hq : L[q]? = some (i, .int y)) (hv : y + Int32.ofInt x = v) (hn : i < pm_l k) (hs : (i, Value.int v) :: L.filter (fun q => !(q.1 == i) && !(q.1 + 1 == i && q.2.category == 2)) = L2) (h : kc_P D tyc k mc ms (pc + 3) L2 st ws n u Q) : kc_P D tyc k mc ms pc L st ws n u Q := by
  intro p l e s m args below meth c A0 H locs ls C hP hD hA hS hL
  exact lv_iinc C.1 C.2.1 hd hL hq hv hn hs (fun ls2 hL2 => h p l e s m args below meth c A0 H locs ls2 C hP hD hA hS hL2)
theorem kc_icmp_ge {x y : Int32} {off : Int} {tgt : Nat} (hd : decode (pm_c k) pc = .ok (.if_icmp .ge off, 3)) (ht : (pc : Int) + off = (tgt : Int)) (kt : y ≤ x → kc_P D tyc k mc ms tgt L st ws n u Q) (kf : ¬ y ≤ x → kc_P D tyc k mc ms (pc + 3) L st ws n u Q) : kc_P D tyc k mc ms pc L (.int y :: .int x :: st) ws n u Q := by
  intro p l e s m args below meth c A0 H locs ls C hP hD hA hS hL
  exact lv_icmp_ge C.1 C.2.1 hd ht (fun h => kt h p l e s m args below meth c A0 H locs ls C hP hD hA hS hL) (fun h => kf h p l e s m args below meth c A0 H locs ls C hP hD hA hS hL)
theorem kc_goto {off : Int} {tgt : Nat} (hd : decode (pm_c k) pc = .ok (.goto off, 3)) (ht : (pc : Int) + off = (tgt : Int)) (h : kc_P D tyc k mc ms tgt L st ws n u Q) : kc_P D tyc k mc ms pc L st ws n u Q := by
  intro p l e s m args below meth c A0 H locs ls C hP hD hA hS hL
  exact lv_goto C.1 C.2.1 hd ht (h p l e s m args below meth c A0 H locs ls C hP hD hA hS hL)
theorem kc_dup {a : Nat} (hd : decode (pm_c k) pc = .ok (.dup, 1)) (h : kc_P D tyc k mc ms (pc + 1) L (.ref a :: .ref a :: st) ws n u Q) : kc_P D tyc k mc ms pc L (.ref a :: st) ws n u Q := by
  intro p l e s m args below meth c A0 H locs ls C hP hD hA hS hL
  exact lv_dup C.1 C.2.1 hd rfl (h p l e s m args below meth c A0 H locs ls C hP hD hA hS hL)
theorem kc_obj {a idx : Nat} (hd : decode (pm_c k) pc = .ok (.invokespecial idx, 3)) (hl : Cond.methodLink (pm_own (pm_o k)) idx objectInit ∈ pm_W) (hfr : 1 ≤ (pm_rm k).frames) (hlo : 20 ≤ (pm_rm k).locals) (h : kc_P D tyc k mc ms (pc + 3) L [] ws n u Q) : kc_P D tyc k mc ms pc L [.ref a] ws n u Q := by
  intro p l e s m args below meth c A0 H locs ls C hP hD hA hS hL
  have hgo := h p l e s m args below meth c A0 H locs ls C hP hD hA hS hL
  obtain ⟨hx, hb, hret, hml, hown, hts, hK, hok, hin, hlk9, hN9⟩ := C
  rw [← hok.2.2.1] at hl
  refine W.objInit hx hb hown (pm_hts hts hl) (pm_hts hts kc_o1) (pm_hts hts kc_o2) rfl (by rw [hml]; exact hL.1) rfl hd hfr ?_ ?_
  · have := lv_room (m := m) (pc := pc) (ls := ls) (st := [.ref a]) (rest := []) (Nat.le_of_ble_eq_true rfl)
    show _ ≤ (pm_rm k).locals
    simp at this ⊢
    omega
  · exact hgo
theorem kc_newa {at' : ArrayType} {ty : FieldType} {t N : Nat} {x : Int32} {a0 : vp_A} (hd : decode (pm_c k) pc = .ok (.newarray at', 2)) (hty : newarray.typeOf at' = ty) (hw : Cond.arrayClass ty ∈ pm_W) (ht : ∀ tyc : Nat → ClassId, (pm_ts tyc)[t]? = some (tyc t, ty)) (ha : ∀ cA : ClassId, vp_cell cA a0 = arrV cA N (fun _ => defaultValue ty)) (hx0 : ¬ x < 0) (hN : x.toNatClampNeg = N) (hbytes : N * componentBytes ty ≤ 536870912) (hn : n + 1 ≤ mc) (hu : u + N ≤ ms)
    (h : ∀ q : Nat, kc_P D tyc k mc ms (pc + 2) L (.ref q :: st) (ws ++ [(q, .inl (tyc t, a0))]) (n + 1) (u + N) Q) : kc_P D tyc k mc ms pc L (.int x :: st) ws n u Q := by
  intro p l e s m args below meth c A0 H locs ls C hP hD hA hS hL
  have CC := C
  obtain ⟨hx, hb, hret, hml, hown, hts, hK, hok, hin, hlk9, hN9⟩ := C
  refine va_newa (ty := ty) hx hb (by rw [hty]; exact pm_hts hts hw) hty hK hP hD hS hA ha hx0 hN hbytes hn hu hd (fun q cA H1 hK1 hP1 hD1 hS1 => ?_)
  have hc := kc_arr hK1 (ht tyc)
  subst hc
  exact h q p l e s m args below meth c A0 H1 locs ls CC hP1 hD1 hA hS1 hL
theorem kc_newq {t N idx : Nat} {x : Int32} (hd : decode (pm_c k) pc = .ok (.anewarray idx, 3)) (hcl : Cond.classLink (pm_own (pm_o k)) idx RX6 ∈ pm_W) (ht : ∀ tyc : Nat → ClassId, (pm_ts tyc)[t]? = some (tyc t, .object RX6)) (hx0 : ¬ x < 0) (hN : x.toNatClampNeg = N) (hbytes : N * 4 ≤ 536870912) (hn : n + 1 ≤ mc) (hu : u + N ≤ ms)
    (h : ∀ q : Nat, kc_P D tyc k mc ms (pc + 3) L (.ref q :: st) (ws ++ [(q, .inl (tyc t, N, .inr (.inr (.inr (.inr (fun _ => none))))))]) (n + 1) (u + N) Q) : kc_P D tyc k mc ms pc L (.int x :: st) ws n u Q := by
  intro p l e s m args below meth c A0 H locs ls C hP hD hA hS hL
  have CC := C
  obtain ⟨hx, hb, hret, hml, hown, hts, hK, hok, hin, hlk9, hN9⟩ := C
  rw [← hok.2.2.1] at hcl
  refine va_newq hx hb hown (pm_hts hts hcl) hN9.2 hK hP hD hS hA hx0 hN hbytes hn hu hd (fun q cA H1 hK1 hP1 hD1 hS1 => ?_)
  have hc := kc_arr hK1 (ht tyc)
  subst hc
  exact h q p l e s m args below meth c A0 H1 locs ls CC hP1 hD1 hA hS1 hL
theorem kc_new {ci idx N : Nat} {q : vw_C} {ty : Nat → FieldType} {fs : List Value} (hd : decode (pm_c k) pc = .ok (.new idx, 3)) (hcl : Cond.classLink (pm_own (pm_o k)) idx q.1 ∈ pm_W) (hq : kc_nw ci q) (hN : q.2.2 = N) (hty : ∀ j, j < q.2.2 → parseFieldDescriptor (q.2.1 j).2.2.1 = some (ty j)) (hfs : ∀ j, j < q.2.2 → defaultValue (ty j) = vp_V fs j) (hn : n + 1 ≤ mc) (hu : u + N ≤ ms)
    (h : ∀ a : Nat, kc_P D tyc k mc ms (pc + 3) L (.ref a :: st) (ws ++ [(a, .inr (ci, fs))]) (n + 1) (u + N) Q) : kc_P D tyc k mc ms pc L st ws n u Q := by
  subst hN
  intro p l e s m args below meth c A0 H locs ls C hP hD hA hS hL
  have CC := C
  obtain ⟨hx, hb, hret, hml, hown, hts, hK, hok, hin, hlk9, hN9⟩ := C
  rw [← hok.2.2.1] at hcl
  exact va_new (C := q.1) (T := q.2.1) (N := q.2.2) (Ts := pm_ws k) hx hb hts (fun w hw => List.mem_cons_of_mem _ (hq.2.2.2 w hw)) ty hty hown (pm_hts hts hcl) (pm_hts hts hq.2.1) (pm_hts hts hq.2.2.1) hK hP hD hS hA hq.1 hfs hn hu hd (fun a H1 hP1 hD1 hS1 => h a p l e s m args below meth c A0 H1 locs ls CC hP1 hD1 hA hS1 hL)
theorem kc_putF {ci idx j i a : Nat} {q : vw_C} {fs : List Value} {ty : FieldType} {v : Value} {ws2 : va_W} (hd : decode (pm_c k) pc = .ok (.putfield idx, 3)) (hlk : Cond.fieldLink (pm_own (pm_o k)) idx (q.2.1 j).1 (q.2.1 j).2.1 (q.2.1 j).2.2.1 ∈ pm_W) (hcls : pm_cls) (hc : vwCl[ci]? = some q) (hj : j < q.2.2) (hfin : (q.2.1 j).2.2.2 = true) (hdecl : (q.2.1 j).1 = pm_own (pm_o k)) (hde : parseFieldDescriptor (q.2.1 j).2.2.1 = some ty) (hnr : narrow ty v = v) (hft : Jvm.fits ty v = true) (hi : ws[i]? = some (a, .inr (ci, fs))) (hlen : j < fs.length) (hs : ws.set i (a, .inr (ci, fs.set j v)) = ws2)
    (h : kc_P D tyc k mc ms (pc + 3) L st ws2 n u Q) : kc_P D tyc k mc ms pc L (v :: .ref a :: st) ws n u Q := by
  intro p l e s m args below meth c A0 H locs ls C hP hD hA hS hL
  have CC := C
  obtain ⟨hx, hb, hret, hml, hown, hts, hK, hok, hin, hlk9, hN9⟩ := C
  rw [← hok.2.2.1] at hlk
  obtain ⟨g1, ⟨ty0, g2⟩, g3⟩ := hcls ci q hc
  subst hs
  exact va_putF (C := q.1) (T := q.2.1) (N := q.2.2) (Ts := pm_ws k) hx hb hts (fun w hw => List.mem_cons_of_mem _ (g1 w hw)) ty0 g2 g3 hown hK hP hD hS i hi hc j hj (pm_hts hts hlk) (fun _ h9 => h9) hfin hin (by rw [hdecl, ← hok.2.2.1]) hde hnr hft hlen hd (fun H1 locs1 hP1 hD1 hS1 => h p l e s m args below meth c A0 H1 locs1 ls CC hP1 hD1 hA hS1 hL)
theorem kc_put {ci idx j i a : Nat} {q : vw_C} {fs : List Value} {ty : FieldType} {v : Value} {ws2 : va_W} (hd : decode (pm_c k) pc = .ok (.putfield idx, 3)) (hlk : Cond.fieldLink (pm_own (pm_o k)) idx (q.2.1 j).1 (q.2.1 j).2.1 (q.2.1 j).2.2.1 ∈ pm_W) (hcls : pm_cls) (hc : vwCl[ci]? = some q) (hj : j < q.2.2) (hfin : (q.2.1 j).2.2.2 = false) (hde : parseFieldDescriptor (q.2.1 j).2.2.1 = some ty) (hnr : narrow ty v = v) (hft : Jvm.fits ty v = true) (hi : ws[i]? = some (a, .inr (ci, fs))) (hlen : j < fs.length) (hs : ws.set i (a, .inr (ci, fs.set j v)) = ws2)
    (h : kc_P D tyc k mc ms (pc + 3) L st ws2 n u Q) : kc_P D tyc k mc ms pc L (v :: .ref a :: st) ws n u Q := by
  intro p l e s m args below meth c A0 H locs ls C hP hD hA hS hL
  have CC := C
  obtain ⟨hx, hb, hret, hml, hown, hts, hK, hok, hin, hlk9, hN9⟩ := C
  rw [← hok.2.2.1] at hlk
  obtain ⟨g1, ⟨ty0, g2⟩, g3⟩ := hcls ci q hc
  subst hs
  exact va_put (C := q.1) (T := q.2.1) (N := q.2.2) (Ts := pm_ws k) hx hb hts (fun w hw => List.mem_cons_of_mem _ (g1 w hw)) ty0 g2 g3 hown hK hP hD hS i hi hc j hj (pm_hts hts hlk) (fun _ h9 => h9) hfin hde hnr hft hlen hd (fun H1 locs1 hP1 hD1 hS1 => h p l e s m args below meth c A0 H1 locs1 ls CC hP1 hD1 hA hS1 hL)
theorem kc_get {ci idx j i a : Nat} {q : vw_C} {fs : List Value} {v : Value} (hd : decode (pm_c k) pc = .ok (.getfield idx, 3)) (hlk : Cond.fieldLink (pm_own (pm_o k)) idx (q.2.1 j).1 (q.2.1 j).2.1 (q.2.1 j).2.2.1 ∈ pm_W) (hcls : pm_cls) (hc : vwCl[ci]? = some q) (hj : j < q.2.2) (hi : ws[i]? = some (a, .inr (ci, fs))) (hv : fs[j]? = some v)
    (h : kc_P D tyc k mc ms (pc + 3) L (v :: st) ws n u Q) : kc_P D tyc k mc ms pc L (.ref a :: st) ws n u Q := by
  intro p l e s m args below meth c A0 H locs ls C hP hD hA hS hL
  have CC := C
  obtain ⟨hx, hb, hret, hml, hown, hts, hK, hok, hin, hlk9, hN9⟩ := C
  rw [← hok.2.2.1] at hlk
  obtain ⟨g1, ⟨ty0, g2⟩, g3⟩ := hcls ci q hc
  exact va_get (C := q.1) (T := q.2.1) (N := q.2.2) (Ts := pm_ws k) hx hb hts (fun w hw => List.mem_cons_of_mem _ (g1 w hw)) hown hK hP i hi hc j hj (pm_hts hts hlk) (fun _ h9 => h9) hv hd (h p l e s m args below meth c A0 H locs ls CC hP hD hA hS hL)
theorem kc_iast {i a N : Nat} {f : Nat → Int32} {y x : Int32} {ws2 : va_W} (hd : decode (pm_c k) pc = .ok (.iastore, 1)) (hi : ws[i]? = some (a, .inl (tyc 0, N, .inl f))) (hin : vp_in y N) (hs : ws.set i (a, .inl (tyc 0, N, .inl (upd f y.toNatClampNeg x))) = ws2)
    (h : kc_P D tyc k mc ms (pc + 1) L st ws2 n u Q) : kc_P D tyc k mc ms pc L (.int x :: .int y :: .ref a :: st) ws n u Q := by
  intro p l e s m args below meth c A0 H locs ls C hP hD hA hS hL
  have CC := C
  obtain ⟨hx, hb, hret, hml, hown, hts, hK, hok, hin2, hlocks, hN9⟩ := C
  subst hs
  exact va_iast hx hb hK hP hD hS i 0 hi rfl hin hd (fun H1 locs1 hP1 hD1 hS1 => h p l e s m args below meth c A0 H1 locs1 ls CC hP1 hD1 hA hS1 hL)
theorem kc_aast {i j a b ci N : Nat} {f : Nat → Option Nat} {r : vw_C} {vs : List Value} {y : Int32} {ws2 : va_W} (hd : decode (pm_c k) pc = .ok (.aastore, 1)) (hi : ws[i]? = some (a, .inl (tyc 4, N, .inr (.inr (.inr (.inr f)))))) (hj : ws[j]? = some (b, .inr (ci, vs))) (hc : vwCl[ci]? = some r) (hr : r.1 = RX6) (hin : vp_in y N) (hs : ws.set i (a, .inl (tyc 4, N, .inr (.inr (.inr (.inr (va_up f y.toNatClampNeg (some b))))))) = ws2)
    (h : kc_P D tyc k mc ms (pc + 1) L st ws2 n u Q) : kc_P D tyc k mc ms pc L (.ref b :: .int y :: .ref a :: st) ws n u Q := by
  intro p l e s m args below meth c A0 H locs ls C hP hD hA hS hL
  have CC := C
  obtain ⟨hx, hb, hret, hml, hown, hts, hK, hok, hin2, hlocks, hN9⟩ := C
  subst hs
  exact va_astq hx hb hK hP hD hS i 4 j ci hi (by rw [hr]; rfl) hj hc hin hd (fun H1 locs1 hP1 hD1 hS1 => h p l e s m args below meth c A0 H1 locs1 ls CC hP1 hD1 hA hS1 hL)
theorem kc_vret (hd : decode (pm_c k) pc = .ok (.return_, 1)) (hn : n = mc) (hu : u = ms) (h : Q ws) : kc_P D tyc k mc ms pc L [] ws n u Q := by
  subst hn
  subst hu
  intro p l e s m args below meth c A0 H locs ls C hP hD hA hS hL
  obtain ⟨hx, hb, hret, hml, hown, hts, hK, hok, hin2, hlocks, hN9⟩ := C
  exact W.vret hx hb hret (fun t ht hW => ⟨⟨ws, rfl, h, by rw [ht]; exact hP, va_K.moved hW.alike hK, hD⟩, hS.F ht⟩) hS.2.2 hd
/-- another way to write a row of the world -/
theorem kc_ext {i a : Nat} {cA : ClassId} {x y : vp_A} {ws2 : va_W} (hi : ws[i]? = some (a, .inl (cA, x))) (hxy : vp_cell cA x = vp_cell cA y) (hs : ws.set i (a, .inl (cA, y)) = ws2) (h : kc_P D tyc k mc ms pc L st ws2 n u Q) : kc_P D tyc k mc ms pc L st ws n u Q := by
  subst hs
  intro p l e s m args below meth c A0 H locs ls C hP hD hA hS hL
  refine h p l e s m args below meth c A0 H locs ls C ?_ (hD.set hi) hA hS hL
  intro k2 q hq
  rw [List.getElem?_set] at hq
  by_cases hk : i = k2
  · subst hk
    rw [if_pos rfl, if_pos (List.getElem?_eq_some_iff.mp hi).1] at hq
    cases hq
    have := hP i _ hi
    show H[a]? = some (vp_cell cA y)
    rw [← hxy]
    exact this
  · rw [if_neg hk] at hq
    exact hP k2 q hq
end KC
section KD
variable {D : va_G} {tyc : Nat → ClassId} {k mc ms pc : Nat} {L : Lcs} {st : List Value} {ws : va_W} {n u : Nat} {Q : va_W → Prop}
/-- a constructor's contract, from its walk -/
theorem kc_met {h0 : Nat} {ws0 : va_W} (hok : pm_ok k) (hr : pm_r k = none) (hl1 : 1 ≤ pm_l k) (h : kc_P D tyc k mc ms 0 [(0, .ref h0)] [] ws0 0 0 Q) (hn : (pm_y k).name = "<init>") (l : Launch) (sz : Nat) :
    Met l (pm_y k) (pm_ws k) (kc_R k mc ms) (va_Pc [.ref h0] (fun U => U.heap.size = sz ∧ va_P D vwCl ws0 U.heap ∧ va_K D vwCl (pm_ts tyc) U ∧ va_D (fun _ => True) ws0 ∧ kc_N U)) (va_Qv Q (kc_B D tyc (va_A ws0 sz)) (va_A ws0 sz)) mc ms (va_A ws0 sz) := by
  refine Met.ofW (cc := pm_c k) (maxL := pm_l k) (ret := pm_r k) hok.2.1 rfl ?_
  intro p e s m args below meth c s₁ B hml hv
  obtain ⟨rfl, hsz, hPw, hK, hD0, hN0⟩ := hv
  have hts := atoms_spec (ws := pm_ws k) B.pre
  have hown : s.vm.findClass (pm_y k).cls = some m.cls := findClass_of_methodNamed B.named
  have hin : meth.name = "<init>" := (name_of_methodNamed B.named B.method).1.trans hn
  subst hsz
  have hD := hD0.self (sz := s.heap.size)
  have hl := lv_entry ([.ref h0]) (n := pm_l k) hl1
  rw [lg_entry_eq]
  exact h p l e s m _ below meth c (va_A ws0 s.heap.size) s.heap [] _ ⟨B.exec, B.bytes, B.returns.trans hr, hml, hown, hts, hK, hok, hin, B.notSynchronized, hN0⟩ hPw hD (fun q h => Or.inr h) va_S.rf hl
theorem kc_blind {h0 sz : Nat} {ws0 : va_W} : FrameBlind (va_Pc [.ref h0] (fun U => U.heap.size = sz ∧ va_P D vwCl ws0 U.heap ∧ va_K D vwCl (pm_ts tyc) U ∧ va_D (fun _ => True) ws0 ∧ kc_N U)) :=
  fun a U g mk q => by
    obtain ⟨q0, q1, qP, qK, qD, qN⟩ := q
    exact ⟨q0, q1, qP, va_K.moved (u := U) (U := U.calling g mk a) (Vm.Alike.refl U.vm) qK, qD, kc_N.same (u := U) rfl qN⟩
theorem kc_range (wr : va_W) (x : Nat × va_E) : (List.range wr.length).map (fun i => (wr ++ [x])[i]?) = wr.map some := by
  apply List.ext_getElem?
  intro i
  rw [List.getElem?_map, List.getElem?_map]
  by_cases hi : i < wr.length
  · rw [List.getElem?_range hi, Option.map_some, List.getElem?_append_left hi, List.getElem?_eq_getElem hi, Option.map_some]
  · rw [List.getElem?_eq_none (by simp; omega), List.getElem?_eq_none (by omega)]
    rfl
theorem kc_ndr : ∀ (l : List Nat), l.Nodup → va_nd l = true := by
  intro l
  induction l with
  | nil => intro _; rfl
  | cons a t ih =>
    intro h
    have h2 := List.nodup_cons.mp h
    simp only [va_nd, Bool.and_eq_true, decide_eq_true_eq]
    exact ⟨h2.1, ih h2.2⟩
theorem kc_nd (n : Nat) : va_nd (List.range n) = true := kc_ndr _ List.nodup_range
/-- a constructor's call on the newest cell -/
theorem kc_init {k2 idx mc2 ms2 a : Nat} {ex : va_E} {wr : va_W} (hd : decode (pm_c k) pc = .ok (.invokespecial idx, 3)) (hl : (pm_o k, idx, k2) ∈ kc_nl) (hi : Cond.instanceMethod (pm_y k2) ∈ pm_W) (hok : pm_ok k2) (hr : pm_r k2 = none) (hl1 : 1 ≤ pm_l k2) (hn2 : (pm_y k2).name = "<init>") (hp : (parseMethodDescriptor (pm_y k2).desc).map (fun d => d.parameters.length) = some 0) (hR : pm_rok k k2) (hn : n + mc2 ≤ mc) (hu : u + ms2 ≤ ms) (hc : (st.map fun v => v.category).sum ≤ 8) (hws : ws = wr ++ [(a, ex)])
    (h : kc_P D tyc k2 mc2 ms2 0 [(0, .ref a)] [] [(a, ex)] 0 0 (fun w1 => kc_P D tyc k mc ms (pc + 3) L st (wr ++ w1) (n + mc2) (u + ms2) Q)) : kc_P D tyc k mc ms pc L (.ref a :: st) ws n u Q := by
  subst hws
  intro p l e s m args below meth c A0 H locs ls C hP hD hA hS hL
  have CC := C
  obtain ⟨hx, hb, hret, hml, hown, hts, hK, hokk, hin, hlk9, hN9⟩ := C
  have hM := kc_met hok hr hl1 h hn2 l H.size
  have hl := hN9.1 _ hl
  dsimp only at hl
  rw [← hokk.2.2.1] at hl
  have e1 : (wr ++ [(a, ex)])[wr.length]? = some (a, ex) := by simp
  have hC : [wr.length].map (fun i => (wr ++ [(a, ex)])[i]?) = [(a, ex)].map some := by simp
  have hPc : va_P D vwCl [(a, ex)] H := fun q x hx => by
    have hq : q = 0 := by have := (List.getElem?_eq_some_iff.mp hx).1; simp at this; exact this
    subst hq
    cases hx
    exact hP _ _ e1
  have hDc := hD.sub (ws' := [(a, ex)]) [wr.length] (by simp [va_nd]) hC
  have hFc := va_free (wc := [(a, ex)]) hD hS hA [wr.length] hC
  have cw := va_cnB (R := kc_R k mc ms) (mc := mc2) (ms := ms2) (rm := kc_R k2 mc2 ms2) (ret := none) 0 hts (pm_good k2 hok) (by unfold pm_ws; rw [hr]) rfl rfl hl (pm_hts hts hok.2.2.2.1) ⟨hok.2.2.2.2.1, hok.2.2.2.2.2, hp⟩ hR
  refine va_callv (va_runIN (As := []) (rest := st) ⟨hx, hb, hml, hown, hts⟩ hM ⟨cw, hn2, pm_hts hts hi⟩ ⟨kc_blind, fun U hU hW => ⟨rfl, by rw [hU], by rw [hU]; exact hPc, va_K.moved hW.alike hK, hDc.weaken (fun _ _ _ _ => trivial), hN9.warm hW⟩⟩ rfl rfl hL.1 rfl (lv_room hc) hd ⟨hn, hu⟩) hS (fun q _ h => hFc q h) hFc (fun w1 t H1 locs1 ht hvm hq hB hz hk1 hS1 => ?_)
  obtain ⟨hP1, hK1, hD1⟩ := hB
  rw [ht] at hP1
  obtain ⟨hP2, hD2⟩ := va_join (wr := wr) (w1 := w1) hP hD [wr.length] (List.range wr.length) hC (kc_range wr _) (kc_nd _) (fun i hi => by simp at hi ⊢; omega) hk1 hFc hP1 hD1
  exact hq p l e s m args below meth c A0 H1 locs1 ls CC hP2 hD2 hA hS1 hL
/-- a constructor's call on the newest cell -/
theorem kc_initP {k2 idx mc2 ms2 a : Nat} {ex : va_E} {wr : va_W} (hd : decode (pm_c k) pc = .ok (.invokespecial idx, 3)) (hl : Cond.methodLink (pm_own (pm_o k)) idx (pm_y k2) ∈ pm_W) (hi : Cond.instanceMethod (pm_y k2) ∈ pm_W) (hok : pm_ok k2) (hr : pm_r k2 = none) (hl1 : 1 ≤ pm_l k2) (hn2 : (pm_y k2).name = "<init>") (hp : (parseMethodDescriptor (pm_y k2).desc).map (fun d => d.parameters.length) = some 0) (hR : pm_rok k k2) (hn : n + mc2 ≤ mc) (hu : u + ms2 ≤ ms) (hc : (st.map fun v => v.category).sum ≤ 8) (hws : ws = wr ++ [(a, ex)])
    (h : kc_P D tyc k2 mc2 ms2 0 [(0, .ref a)] [] [(a, ex)] 0 0 (fun w1 => kc_P D tyc k mc ms (pc + 3) L st (wr ++ w1) (n + mc2) (u + ms2) Q)) : kc_P D tyc k mc ms pc L (.ref a :: st) ws n u Q := by
  subst hws
  intro p l e s m args below meth c A0 H locs ls C hP hD hA hS hL
  have CC := C
  obtain ⟨hx, hb, hret, hml, hown, hts, hK, hokk, hin, hlk9, hN9⟩ := C
  have hM := kc_met hok hr hl1 h hn2 l H.size
  rw [← hokk.2.2.1] at hl
  have e1 : (wr ++ [(a, ex)])[wr.length]? = some (a, ex) := by simp
  have hC : [wr.length].map (fun i => (wr ++ [(a, ex)])[i]?) = [(a, ex)].map some := by simp
  have hPc : va_P D vwCl [(a, ex)] H := fun q x hx => by
    have hq : q = 0 := by have := (List.getElem?_eq_some_iff.mp hx).1; simp at this; exact this
    subst hq
    cases hx
    exact hP _ _ e1
  have hDc := hD.sub (ws' := [(a, ex)]) [wr.length] (by simp [va_nd]) hC
  have hFc := va_free (wc := [(a, ex)]) hD hS hA [wr.length] hC
  have cw := cwI (R := kc_R k mc ms) (mc := mc2) (ms := ms2) (rm := kc_R k2 mc2 ms2) 0 hts (pm_good k2 hok) (by unfold pm_ws; rw [hr]) rfl rfl (pm_hts hts hok.2.2.2.1) (pm_hts hts hl) (pm_hts hts hi) hn2 ⟨hok.2.2.2.2.1, hok.2.2.2.2.2, hp⟩ hR
  refine va_callv (va_runI (As := []) (rest := st) ⟨hx, hb, hml, hown, hts⟩ hM cw ⟨kc_blind, fun U hU hW => ⟨rfl, by rw [hU], by rw [hU]; exact hPc, va_K.moved hW.alike hK, hDc.weaken (fun _ _ _ _ => trivial), hN9.warm hW⟩⟩ rfl rfl hL.1 rfl (lv_room hc) hd ⟨hn, hu⟩) hS (fun q _ h => hFc q h) hFc (fun w1 t H1 locs1 ht hvm hq hB hz hk1 hS1 => ?_)
  obtain ⟨hP1, hK1, hD1⟩ := hB
  rw [ht] at hP1
  obtain ⟨hP2, hD2⟩ := va_join (wr := wr) (w1 := w1) hP hD [wr.length] (List.range wr.length) hC (kc_range wr _) (kc_nd _) (fun i hi => by simp at hi ⊢; omega) hk1 hFc hP1 hD1
  exact hq p l e s m args below meth c A0 H1 locs1 ls CC hP2 hD2 hA hS1 hL
theorem kc_inj {A0 : Nat → Prop} {w : Nat} {ad : Nat → Nat} {A : Mem} (h : va_D A0 (pm_w w ad tyc A)) : pm_inj w ad := by
  intro i j hi hj he
  exact h.1 i j _ _ (pm_w_get (List.getElem?_eq_getElem hi)) (pm_w_get (List.getElem?_eq_getElem hj)) he
theorem kc_sub {A0 : Nat → Prop} {w : Nat} {ad : Nat → Nat} {A : Mem} (h : va_D A0 (pm_w w ad tyc A)) : ∀ q, pm_A w ad q → A0 q := by
  intro q hq
  obtain ⟨i, hi, rfl⟩ := hq
  exact h.2 i _ (pm_w_get (List.getElem?_eq_getElem hi))
/-- a call of a method of the world: every cell is the world's -/
theorem kc_call {k2 idx ci : Nat} {sl : List (Option Nat)} {r : vw_C} {ad : Nat → Nat} {A : Mem} {a : Nat} (hcls : pm_cls) (hd : decode (pm_c k) pc = .ok (.invokevirtual idx, 3)) (hl : pm_LV (pm_o k) idx k2) (hok : pm_ok k2) (hr : pm_r k2 = none) (hna : pm_na k2 = 1) (hmx : 1 ≤ pm_l k2) (hs : (pm_sh (pm_wo k2))[0]? = some (.inl (ci, sl))) (hci : vwCl[ci]? = some r) (hC : r.1 = (pm_y k2).cls) (hR : pm_rok k k2) (hw : ws = pm_w (pm_wo k2) ad tyc A) (ha : a = ad 0) (hn : n ≤ mc) (hu : u ≤ ms)
    (h : pm_P k2 0 [(0, .ref 0)] [] A (fun _ A1 => kc_P D tyc k mc ms (pc + 3) L [] (pm_w (pm_wo k2) ad tyc A1) n u Q)) : kc_P D tyc k mc ms pc L [.ref a] ws n u Q := by
  subst hw
  subst ha
  intro p l e s m args below meth c A0 H locs ls C hP hD hA hS hL
  have CC := C
  obtain ⟨hx, hb, hret, hml, hown, hts, hK, hokk, hin, hlk9, hN9⟩ := C
  have hinj := kc_inj hD
  have hM := pm_met (as := [.ref 0]) hok hcls h (by simpa using hmx) rfl l ad D tyc hinj
  rw [pm_Qv_eq hr] at hM
  obtain ⟨w1, w2, w3, w4⟩ := hl
  rw [← hokk.2.2.1] at w1
  have hT : GoodIn (pm_ws k) (wsV (pm_y k).cls idx (pm_y k2).cls (pm_y k2) (pm_ws k2)) := by
    intro w hw9
    rcases List.mem_append.mp hw9 with h9 | h9
    · have h8 : w ∈ pm_W := by
        simp only [List.mem_cons, List.not_mem_nil, or_false] at h9
        rcases h9 with rfl | rfl | rfl | rfl
        · exact w1
        · exact w2
        · exact w3
        · exact hok.2.2.2.1
      exact ⟨List.mem_cons_of_mem _ h8, good_of_word (List.mem_filter.mp h8).2⟩
    · exact pm_good k2 hok w h9
  have hnn : (parseMethodDescriptor (pm_y k2).desc).map (fun d => d.parameters.length) = some 0 := by
    cases hp : parseMethodDescriptor (pm_y k2).desc with
    | none => rw [hp] at w4; cases w4
    | some d =>
      rw [hp, hna] at w4
      have h1 : d.parameters.length + 1 = 1 := Option.some.inj w4
      show some d.parameters.length = some 0
      congr 1
      omega
  have cw := cwV (R := kc_R k mc ms) (mc := 0) (ms := 0) (rm := pm_rm k2) 0 hts hT rfl rfl rfl ⟨rfl, hok.2.2.2.2.1, hok.2.2.2.2.2, hnn⟩ hR
  have hsub := kc_sub hD
  refine va_callv (va_runV (As := []) (rest := []) ⟨hx, hb, hml, hown, hts⟩ hM cw ⟨pm_blind (as := [.ref 0]), by rw [← hC]; exact va_recv hK hP (ci := ci) (q0 := 0) hci (pm_w_get hs), fun U hU hW => ⟨rfl, by rw [hU]; exact hP, va_K.moved hW.alike hK⟩⟩ rfl rfl hL.1 rfl (lv_room (Nat.le_of_ble_eq_true rfl)) hd ⟨hn, hu⟩) hS (fun q _ h => hsub q h) hsub (fun A1 t H1 locs1 ht hvm hq hB hz hk1 hS1 => ?_)
  obtain ⟨hB1, hB2⟩ := hB
  rw [ht] at hB1
  exact hq p l e s m args below meth c A0 H1 locs1 ls CC hB1 ((pm_w_D hinj).weaken (fun _ _ _ h => hsub _ h)) hA hS1 hL
end KD
