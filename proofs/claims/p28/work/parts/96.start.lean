theorem st_prim {args : Array Value} {s : State} {ty : FieldType} (hp : ∀ cA, s.vm.findClass ("[" ++ ty.toString) = some cA → va_RA s cA ty) (h : (Cond.arrayClass ty).before args s = true) : ∃ cA, ArrOfT s cA ty ∧ va_RA s cA ty := by
  obtain ⟨c, k, comp, h1, h2, h3⟩ := Cond.arrayClass_spec h
  exact ⟨c, fun n z => ⟨fun k h => (by cases h), k, h2, comp, h3⟩, hp c h1⟩
theorem st_obj {args : Array Value} {s : State} {C : String} (h : (Cond.arrayOver (.object C)).before args s = true) : ∃ cA, ArrOfT s cA (.object C) ∧ va_RA s cA (.object C) := by
  obtain ⟨comp, c, k, h1, h2, h3, h4, h5⟩ := Cond.arrayOver_spec h
  exact ⟨c, fun n z => ⟨fun k h => (by cases h), k, h3, comp, h4⟩, k, comp, h3, h4, h1, h5⟩
theorem st_mem {w : Cond} (h : w ∈ pm_W) : w ∈ lw_tbl := (List.mem_filter.mp h).1
theorem st_over : Cond.arrayOver (.object RX6) ∈ lw_tbl := (List.mem_of_getElem? (i := 217) (by decide +kernel))
theorem st_nw : ∀ (ci : Nat) (q : vw_C), vwCl[ci]? = some q → kc_nw ci q := by
  intro ci q hq
  match ci, hq with
  | 0, hq => cases hq; exact nw_0
  | 1, hq => cases hq; exact nw_1
  | 2, hq => cases hq; exact nw_2
  | 3, hq => cases hq; exact nw_3
  | 4, hq => cases hq; exact nw_4
  | 5, hq => cases hq; exact nw_5
  | 6, hq => cases hq; exact nw_6
  | 7, hq => cases hq; exact nw_7
  | 8, hq => cases hq; exact nw_8
  | 9, hq => cases hq; exact nw_9
  | 10, hq => cases hq; exact nw_10
  | k + 11, hq => simp [vwCl] at hq
theorem st_nest : ∀ q ∈ kc_nl, Cond.methodLinkNest (pm_own q.1) q.2.1 (pm_y q.2.2) "GeodesicCutter" ∈ lw_tbl := List.forall_mem_cons.mpr ⟨(List.mem_of_getElem? (i := 56) (by decide +kernel)), List.forall_mem_cons.mpr ⟨(List.mem_of_getElem? (i := 84) (by decide +kernel)), List.forall_mem_cons.mpr ⟨(List.mem_of_getElem? (i := 120) (by decide +kernel)), List.forall_mem_cons.mpr ⟨(List.mem_of_getElem? (i := 157) (by decide +kernel)), List.forall_mem_cons.mpr ⟨(List.mem_of_getElem? (i := 176) (by decide +kernel)), List.forall_mem_cons.mpr ⟨(List.mem_of_getElem? (i := 218) (by decide +kernel)), List.forall_mem_cons.mpr ⟨(List.mem_of_getElem? (i := 229) (by decide +kernel)), List.forall_mem_cons.mpr ⟨(List.mem_of_getElem? (i := 244) (by decide +kernel)), List.forall_mem_cons.mpr ⟨(List.mem_of_getElem? (i := 277) (by decide +kernel)), List.forall_mem_cons.mpr ⟨(List.mem_of_getElem? (i := 297) (by decide +kernel)), fun _ h => by cases h⟩⟩⟩⟩⟩⟩⟩⟩⟩⟩
theorem st_N {args : Array Value} {s : State} (hts : ∀ w ∈ lw_tbl, w.before args s = true) : kc_N s := ⟨fun q hq => va_Nw.of rfl (hts _ (st_nest q hq)), va_AO.of (hts _ st_over)⟩
theorem st_K {args : Array Value} {s : State} (hts : ∀ w ∈ lw_tbl, w.before args s = true) : ∃ (D : va_G) (tyc : Nat → ClassId), va_K D vwCl (pm_ts tyc) s := by
  have hc : ∀ ci : Nat, ∃ x : ClassId × (Nat → Nat), ∀ q, vwCl[ci]? = some q → u_Kn s q.1 q.2.1 q.2.2 x.1 x.2 := by
    intro ci
    cases h : vwCl[ci]? with
    | none => exact ⟨(0, fun _ => 0), fun q hq => by cases hq⟩
    | some q =>
      have hw := st_nw ci q h
      obtain ⟨cC, iS, hk⟩ := u_known (ws := lw_tbl) (C := q.1) (T := q.2.1) (N := q.2.2) (n := q.2.2) hts (fun w hw2 => st_mem (hw.2.2.2 w hw2)) (hts _ (st_mem hw.2.1))
      exact ⟨(cC, iS), fun q2 h2 => by cases h2; exact hk⟩
  obtain ⟨t0, a0, b0⟩ := st_prim (ty := .int) (fun cA h => h) (hts _ (st_mem kw_int))
  obtain ⟨t1, a1, b1⟩ := st_prim (ty := .int) (fun cA h => h) (hts _ (st_mem kw_int))
  obtain ⟨t2, a2, b2⟩ := st_prim (ty := .boolean) (fun cA h => h) (hts _ (st_mem kw_boolean))
  obtain ⟨t3, a3, b3⟩ := st_prim (ty := .char) (fun cA h => h) (hts _ (st_mem kw_char))
  obtain ⟨t4, a4, b4⟩ := st_obj (C := RX6) (hts _ st_over)
  refine ⟨(fun ci => (Classical.choose (hc ci)).1, fun ci => (Classical.choose (hc ci)).2), fun t => if t = 0 then t0 else if t = 1 then t1 else if t = 2 then t2 else if t = 3 then t3 else t4, fun ci q hq => Classical.choose_spec (hc ci) q hq, fun k q hq => ?_⟩
  match k, hq with
  | 0, hq => cases hq; exact ⟨a0, b0⟩
  | 1, hq => cases hq; exact ⟨a1, b1⟩
  | 2, hq => cases hq; exact ⟨a2, b2⟩
  | 3, hq => cases hq; exact ⟨a3, b3⟩
  | 4, hq => cases hq; exact ⟨a4, b4⟩
  | k + 5, hq => simp [pm_ts] at hq
theorem st_good {k : Nat} (hok : pm_ok k) : GoodIn lw_tbl (pm_ws k) := by
  intro w hw
  have h8 : w ∈ pm_W := by
    rcases List.mem_cons.mp hw with rfl | h
    · exact hok.1
    · exact h
  exact ⟨st_mem h8, good_of_word (List.mem_filter.mp h8).2⟩
theorem st_split {A0 : Nat → Prop} {w0 w1 : va_W} (h : va_D A0 (w0 ++ w1)) : va_D A0 w0 ∧ va_D A0 w1 ∧ ∀ (i j : Nat) (p q : Nat × va_E), w0[i]? = some p → w1[j]? = some q → p.1 ≠ q.1 := by
  have l0 : ∀ (i : Nat) (p : Nat × va_E), w0[i]? = some p → (w0 ++ w1)[i]? = some p := fun i p hp => by
    rw [List.getElem?_append_left (List.getElem?_eq_some_iff.mp hp).1]; exact hp
  have l1 : ∀ (i : Nat) (p : Nat × va_E), w1[i]? = some p → (w0 ++ w1)[w0.length + i]? = some p := fun i p hp => by
    rw [List.getElem?_append_right (by omega), Nat.add_sub_cancel_left]; exact hp
  refine ⟨⟨fun i j p q hi hj he => h.1 i j p q (l0 i p hi) (l0 j q hj) he, fun i p hp => h.2 i p (l0 i p hp)⟩, ⟨fun i j p q hi hj he => ?_, fun i p hp => h.2 _ p (l1 i p hp)⟩, fun i j p q hi hj he => ?_⟩
  · have := h.1 _ _ p q (l1 i p hi) (l1 j q hj) he
    omega
  · have h9 := h.1 _ _ p q (l0 i p hi) (l1 j q hj) he
    have := (List.getElem?_eq_some_iff.mp hi).1
    omega
theorem st_P {D : va_G} {w0 w1 : va_W} {H : Heap} (h : va_P D vwCl (w0 ++ w1) H) : va_P D vwCl w0 H ∧ va_P D vwCl w1 H := by
  refine ⟨fun i p hp => h i p ?_, fun i p hp => h (w0.length + i) p ?_⟩
  · rw [List.getElem?_append_left (List.getElem?_eq_some_iff.mp hp).1]; exact hp
  · rw [List.getElem?_append_right (by omega), Nat.add_sub_cancel_left]; exact hp
section ST
variable {p : Program} {l : Launch} {e : Env} {s : State} {m : MethodId} {below : List Frame} {meth : Method} {c : Code} {b : Nat} {Qz : State → Prop} {H : Heap} {locs : List Loc} {ls : Array Slot} {D : va_G} {tyc : Nat → ClassId} {pc n u : Nat} {rest : List Value}
/-- the law calls a constructor on the newest cell -/
theorem st_init {k2 idx mc2 ms2 a : Nat} {ex : va_E} {wr : va_W} {Q : va_W → Prop} (hx : p.tables.exec = Jvm.exec) (hb : c.code = code) (hml : c.maxLocals = 14) (hown : s.vm.findClass R_law = some m.cls) (hts : ∀ w ∈ lw_tbl, w.before #[Value.ref b] s = true) (hK : va_K D vwCl (pm_ts tyc) s) (hN : kc_N s)
    (hP : va_P D vwCl (wr ++ [(a, ex)]) H) (hD : va_D (fun q : Nat => s.heap.size ≤ q) (wr ++ [(a, ex)])) (hS : va_S (fun q : Nat => s.heap.size ≤ q) s.heap H locs) (hsz : ls.size = 14)
    (hd : decode code pc = .ok (.invokespecial idx, 3)) (hl : Cond.methodLink R_law idx (pm_y k2) ∈ lw_tbl) (hi : Cond.instanceMethod (pm_y k2) ∈ pm_W) (hok : pm_ok k2) (hr : pm_r k2 = none) (hl1 : 1 ≤ pm_l k2) (hn2 : (pm_y k2).name = "<init>") (hp : (parseMethodDescriptor (pm_y k2).desc).map (fun d => d.parameters.length) = some 0) (hR : (pm_rm k2).frames + 1 ≤ room_1.frames ∧ 8 + (pm_l k2 + 11) + (pm_rm k2).locals ≤ room_1.locals) (hn : n + mc2 ≤ room_1.cells) (hu : u + ms2 ≤ room_1.slots) (hc : (rest.map fun v => v.category).sum ≤ 8)
    (hk : kc_P D tyc k2 mc2 ms2 0 [(0, .ref a)] [] [(a, ex)] 0 0 Q)
    (kk : ∀ (w1 : va_W) (H1 : Heap) (locs1 : List Loc), Q w1 → va_P D vwCl (wr ++ w1) H1 → va_D (fun q : Nat => s.heap.size ≤ q) (wr ++ w1) → va_S (fun q : Nat => s.heap.size ≤ q) s.heap H1 locs1 → W p l e room_1 s m #[Value.ref b] below meth c H1 locs1 (n + mc2) (u + ms2) Qz (F0 m (pc + 3) ls rest)) : W p l e room_1 s m #[Value.ref b] below meth c H locs n u Qz (F0 m pc ls (.ref a :: rest)) := by
  have hA : ∀ q : Nat, s.heap.size ≤ q → (fun q : Nat => s.heap.size ≤ q) q := fun _ h => h
  have hM := kc_met hok hr hl1 hk hn2 l H.size
  have e1 : (wr ++ [(a, ex)])[wr.length]? = some (a, ex) := by simp
  have hC : [wr.length].map (fun i => (wr ++ [(a, ex)])[i]?) = [(a, ex)].map some := by simp
  have hPc : va_P D vwCl [(a, ex)] H := fun q x hx => by
    have hq : q = 0 := by have := (List.getElem?_eq_some_iff.mp hx).1; simp at this; exact this
    subst hq
    cases hx
    exact hP _ _ e1
  have hDc := hD.sub (ws' := [(a, ex)]) [wr.length] (by simp [va_nd]) hC
  have hFc := va_free (wc := [(a, ex)]) hD hS hA [wr.length] hC
  have cw := cwI (R := room_1) (mc := mc2) (ms := ms2) (rm := kc_R k2 mc2 ms2) 0 hts (st_good hok) (by unfold pm_ws; rw [hr]) rfl rfl (hts _ (st_mem hok.2.2.2.1)) (hts _ hl) (hts _ (st_mem hi)) hn2 ⟨hok.2.2.2.2.1, hok.2.2.2.2.2, hp⟩ hR
  refine va_callv (va_runI (As := []) (rest := rest) ⟨hx, hb, hml, hown, hts⟩ hM cw ⟨kc_blind, fun U hU hW => ⟨rfl, by rw [hU], by rw [hU]; exact hPc, va_K.moved hW.alike hK, hDc.weaken (fun _ _ _ _ => trivial), hN.warm hW⟩⟩ rfl rfl hsz rfl (lv_room hc) hd ⟨hn, hu⟩) hS (fun q _ h => hFc q h) hFc (fun w1 t H1 locs1 ht hvm hq hB hz hk1 hS1 => ?_)
  obtain ⟨hP1, hK1, hD1⟩ := hB
  rw [ht] at hP1
  obtain ⟨hP2, hD2⟩ := va_join (wr := wr) (w1 := w1) hP hD [wr.length] (List.range wr.length) hC (kc_range wr _) (kc_nd _) (fun i hi => by simp at hi ⊢; omega) hk1 hFc hP1 hD1
  exact kk w1 H1 locs1 hq hP2 hD2 hS1
/-- the law makes an object -/
theorem st_new {ci idx N : Nat} {q : vw_C} {ty : Nat → FieldType} {fs : List Value} {wr : va_W} (hx : p.tables.exec = Jvm.exec) (hb : c.code = code) (hown : s.vm.findClass R_law = some m.cls) (hts : ∀ w ∈ lw_tbl, w.before #[Value.ref b] s = true) (hK : va_K D vwCl (pm_ts tyc) s) (hP : va_P D vwCl wr H) (hD : va_D (fun q : Nat => s.heap.size ≤ q) wr) (hS : va_S (fun q : Nat => s.heap.size ≤ q) s.heap H locs)
    (hd : decode code pc = .ok (.new idx, 3)) (hcl : Cond.classLink R_law idx q.1 ∈ lw_tbl) (hq : kc_nw ci q) (hN : q.2.2 = N) (hty : ∀ j, j < q.2.2 → parseFieldDescriptor (q.2.1 j).2.2.1 = some (ty j)) (hfs : ∀ j, j < q.2.2 → defaultValue (ty j) = vp_V fs j) (hn : n + 1 ≤ room_1.cells) (hu : u + N ≤ room_1.slots)
    (kk : ∀ (a : Nat) (H1 : Heap), va_P D vwCl (wr ++ [(a, .inr (ci, fs))]) H1 → va_D (fun q : Nat => s.heap.size ≤ q) (wr ++ [(a, .inr (ci, fs))]) → va_S (fun q : Nat => s.heap.size ≤ q) s.heap H1 locs → W p l e room_1 s m #[Value.ref b] below meth c H1 locs (n + 1) (u + N) Qz (F0 m (pc + 3) ls (.ref a :: rest))) : W p l e room_1 s m #[Value.ref b] below meth c H locs n u Qz (F0 m pc ls rest) := by
  subst hN
  exact va_new (C := q.1) (T := q.2.1) (N := q.2.2) (Ts := lw_tbl) hx hb hts (fun w hw => st_mem (hq.2.2.2 w hw)) ty hty hown (hts _ hcl) (hts _ (st_mem hq.2.1)) (hts _ (st_mem hq.2.2.1)) hK hP hD hS (fun _ h => h) hq.1 hfs hn hu hd kk
end ST
theorem st_l53 : Cond.methodLink R_law 53 (pm_y 58) ∈ lw_tbl := (List.mem_of_getElem? (i := 48) (by decide +kernel))
theorem st_c13 : Cond.classLink R_law 13 RX10 ∈ lw_tbl := (List.mem_of_getElem? (i := 46) (by decide +kernel))
/-- from where the object stands -/
theorem st_one {p : Program} {l : Launch} {e : Env} {s : State} {m : MethodId} {below : List Frame} {meth : Method} {c : Code} {b L : Nat} {xs : Nat → Int32} {H1 : Heap} {locs1 : List Loc} {ls : Array Slot} {D : va_G} {tyc ad0 : Nat → Nat} {A1 : Mem} {w0 : va_W} (hL : L ≤ 260) (C0 : lw_At p s m meth c b L xs) (hK : va_K D vwCl (pm_ts tyc) s) (hw0 : w0 = pm_w 0 ad0 tyc A1) (hP : va_P D vwCl w0 H1) (hD : va_D (fun q : Nat => s.heap.size ≤ q) w0) (hS1 : va_S (fun q : Nat => s.heap.size ≤ q) s.heap H1 locs1) (hl : lv_has ls 14 [(1, .ref (ad0 0)), (0, .ref b)]) (hC : CW SG0 A1) : W p l e room_1 s m #[Value.ref b] below meth c H1 locs1 52 12822 (lw_Z below #[Value.ref b] s) (F0 m 8 ls []) := by
  obtain ⟨hx, hb, hr, hml, hown, hts, hX, hbl, hlocks, hgv⟩ := id C0
  rw [hw0] at hP hD
  refine lv_iconst (v := nI 0) hx hb dl_8 (by decide) ?_
  refine lv_istore_n (lv' := [(2, .int (nI 0)), (1, .ref (ad0 0)), (0, .ref b)]) hx hb dl_9 rfl hl (by decide) rfl (fun ls hl => ?_)
  refine lv_iconst (v := nI 0) hx hb dl_10 (by decide) ?_
  refine lv_istore_n (lv' := [(3, .int (nI 0)), (2, .int (nI 0)), (1, .ref (ad0 0)), (0, .ref b)]) hx hb dl_11 rfl hl (by decide) rfl (fun ls hl => ?_)
  have hl2 : lv_has ls 14 ((l0 SG0 0).map (fun q => (q.1, tv (lz_ad b (ad0 0)) q.2))) := lv_sub hl [3, 2, 1, 0] rfl
  have hi0 : pm_inj 0 ad0 := kc_inj hD
  have hA0 : ∀ q, pm_A 0 ad0 q → s.heap.size ≤ q := kc_sub hD
  have hCC : lz_C L xs p s m meth c b ad0 D tyc := ⟨C0, hL, hK, hi0, hA0⟩
  have hlp : lz_P L xs 12 (l0 SG0 0) [] A1 := lz_loop 0 (Nat.zero_le _) SG0 A1 hC
  exact hlp p l e s m below meth c b ad0 D tyc H1 locs1 ls hCC hP hS1 hl2
/-- the law, from its entry -/
theorem whole_start {p : Program} {e : Env} {s : State} {m : MethodId} {below : List Frame} {meth : Method} {c : Code} (l : Launch) (hflags : l.flags = flags0) {b L : Nat} {xs : Nat → Int32} (hL : L ≤ 260) (C0 : lw_At p s m meth c b L xs) : W p l e room_1 s m #[Value.ref b] below meth c s.heap [] 0 0 (lw_Z below #[Value.ref b] s) (entryFrame m ([Value.ref b] : List Value).toArray 14) := by
  obtain ⟨hx, hb, hr, hml, hown, hts, hX, hbl, hlocks, hgv⟩ := id C0
  obtain ⟨D, tyc, hK⟩ := st_K hts
  have hN := st_N hts
  have hS : va_S (fun q : Nat => s.heap.size ≤ q) s.heap s.heap [] := va_S.rf
  have hP : va_P D vwCl [] s.heap := fun k q h => by simp at h
  have hD : va_D (fun q : Nat => s.heap.size ≤ q) [] := ⟨fun i j p q h => by simp at h, fun k q h => by simp at h⟩
  have hl := lv_entry ([.ref b]) (n := 14) (Nat.le_of_ble_eq_true rfl)
  rw [lg_entry_eq]
  generalize (lg_sl ([.ref b]) ++ List.replicate (14 - (lg_sl ([.ref b])).length) Slot.unset).toArray = ls at hl ⊢
  have hl : lv_has ls 14 [(0, .ref b)] := hl
  refine st_new (N := 11) (q := (RX10, TX10, 11)) (fs := [.null, .null, .null, .null, .null, .null, .null, .null, .null, .null, .null]) hx hb hown hts hK hP hD hS dl_0 st_c13 nw_10 rfl tyX10_ok (by decide +kernel) (Nat.le_of_ble_eq_true rfl) (Nat.le_of_ble_eq_true rfl) (fun a0 H hP hD hS => ?_)
  refine lv_dup hx hb dl_3 rfl ?_
  refine st_init (k2 := 58) (mc2 := 51) (ms2 := 12811) (wr := []) (Q := fun w => ∃ (ad : Nat → Nat) (A1 : Mem), ad 0 = a0 ∧ CW SG0 A1 ∧ w = pm_w 0 ad tyc A1) hx hb hml hown hts hK hN hP hD hS hl.1 dl_4 st_l53 ki_58 ok_58 rfl (Nat.le_of_ble_eq_true rfl) rfl (by decide +kernel) ⟨(Nat.le_of_ble_eq_true rfl), (Nat.le_of_ble_eq_true rfl)⟩ (Nat.le_of_ble_eq_true rfl) (Nat.le_of_ble_eq_true rfl) (Nat.le_of_ble_eq_true rfl) (kn_58 (fun ad A1 h1 h2 => ⟨ad, A1, h1, h2, rfl⟩)) (fun w1 H1 locs1 hq hP4 hD4 hS1 => ?_)
  obtain ⟨ad0, A1, e0, hC, e9⟩ := hq
  subst e0
  refine lv_astore_n (lv' := [(1, .ref (ad0 0)), (0, .ref b)]) hx hb dl_7 rfl hl (by decide) rfl (fun ls hl => ?_)
  exact st_one hL C0 hK e9 hP4 hD4 hS1 hl hC
