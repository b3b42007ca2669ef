/-! calls: from pm_P of the callee at its entry to the contract, and from there to the caller -/
theorem pm_ent_map (ad : Nat → Nat) (as : List Value) : ∀ i, as.all (fun v => v.category == 1) = true → lv_args i (as.map (tv ad)) = (pm_ent i as).map (fun q => (q.1, tv ad q.2)) := by
  induction as with
  | nil => intro i _; rfl
  | cons v vs ih =>
    intro i h
    simp only [List.all_cons, Bool.and_eq_true, beq_iff_eq] at h
    have hc : ¬ (tv ad v).category = 2 := by rw [tv_cat, h.1]; decide
    show (i, tv ad v) :: lv_args (if (tv ad v).category = 2 then i + 2 else i + 1) (vs.map (tv ad)) = (i, tv ad v) :: (pm_ent (i + 1) vs).map (fun q => (q.1, tv ad q.2))
    rw [if_neg hc, ih (i + 1) h.2]
theorem pm_sl_len (ad : Nat → Nat) (as : List Value) (h : as.all (fun v => v.category == 1) = true) : (lg_sl (as.map (tv ad))).length = as.length := by
  induction as with
  | nil => rfl
  | cons v vs ih =>
    simp only [List.all_cons, Bool.and_eq_true, beq_iff_eq] at h
    have hc : ¬ (tv ad v).category = 2 := by rw [tv_cat, h.1]; decide
    have e : lg_sl ((v :: vs).map (tv ad)) = .val (tv ad v) :: lg_sl (vs.map (tv ad)) := by simp [lg_sl, hc]
    rw [e, List.length_cons, ih h.2, List.length_cons]
theorem pm_met {k : Nat} {as : List Value} {A : Mem} {Q : Int32 → Mem → Prop} (hok : pm_ok k) (hcl : pm_cls) (hP : pm_P k 0 (pm_ent 0 as) [] A Q) (hlen : as.length ≤ pm_l k) (hcat : as.all (fun v => v.category == 1) = true) (l : Launch) (ad : Nat → Nat) (D : va_G) (tyc : Nat → ClassId) (hinj : pm_inj (pm_wo k) ad) :
    Met l (pm_y k) (pm_ws k) (pm_rm k) (va_Pc (as.map (tv ad)) (fun U => va_P D vwCl (pm_w (pm_wo k) ad tyc A) U.heap ∧ va_K D vwCl (pm_ts tyc) U)) (pm_Q k ad D tyc Q) 0 0 (pm_A (pm_wo k) ad) := by
  refine Met.ofW (cc := pm_c k) (maxL := pm_l k) (ret := pm_r k) hok.2.1 rfl ?_
  intro p e s m args below meth c s₁ B hml hv
  obtain ⟨rfl, hPw, hK⟩ := hv
  have hts := atoms_spec (ws := pm_ws k) B.pre
  have hown : s.vm.findClass (pm_y k).cls = some m.cls := findClass_of_methodNamed B.named
  have hl := lv_entry (as.map (tv ad)) (n := pm_l k) (by rw [pm_sl_len ad as hcat]; exact hlen)
  rw [lg_entry_eq]
  rw [pm_ent_map ad as 0 hcat] at hl
  exact hP p l e s m _ below meth c ad D tyc s.heap [] _ ⟨B.exec, B.bytes, B.returns, hml, hown, hts, B.notSynchronized, hK, hinj, hok, hcl⟩ hPw va_S.rf hl
theorem pm_blind {as : List Value} {ad : Nat → Nat} {D : va_G} {tyc : Nat → ClassId} {w : Nat} {A : Mem} : FrameBlind (va_Pc (as.map (tv ad)) (fun U => va_P D vwCl (pm_w w ad tyc A) U.heap ∧ va_K D vwCl (pm_ts tyc) U)) :=
  fun a U g mk q => by
    obtain ⟨q0, qP, qK⟩ := q
    exact ⟨q0, qP, va_K.moved (u := U) (U := U.calling g mk a) (Vm.Alike.refl U.vm) qK⟩
theorem pm_Qi_eq {k : Nat} {ad : Nat → Nat} {D : va_G} {tyc : Nat → ClassId} {Q : Int32 → Mem → Prop} {ty : FieldType} (h : pm_r k = some ty) : pm_Q k ad D tyc Q = va_Qi (fun (r : Int32) (A : Mem) => Q r A) (pm_B (pm_wo k) ad D tyc) (pm_A (pm_wo k) ad) := by
  unfold pm_Q
  rw [h]
theorem pm_Qv_eq {k : Nat} {ad : Nat → Nat} {D : va_G} {tyc : Nat → ClassId} {Q : Int32 → Mem → Prop} (h : pm_r k = none) : pm_Q k ad D tyc Q = va_Qv (fun A : Mem => Q 0 A) (pm_B (pm_wo k) ad D tyc) (pm_A (pm_wo k) ad) := by
  unfold pm_Q
  rw [h]
def pm_rok (k k2 : Nat) : Prop := (pm_rm k2).frames + 1 ≤ (pm_rm k).frames ∧ 8 + (pm_l k2 + 11) + (pm_rm k2).locals ≤ (pm_rm k).locals
section PMC
variable {k pc : Nat} {L : Lcs} {A : Mem} {Q : Int32 → Mem → Prop}
theorem pm_catsum (ad : Nat → Nat) (rest : List Value) : ((rest.map (tv ad)).map fun v => v.category).sum = (rest.map fun v => v.category).sum := by
  rw [List.map_map]
  congr 1
  apply List.map_congr_left
  intro v _
  exact tv_cat ad v
/-- a virtual call that answers an int -/
theorem pm_callV {k2 idx b ci : Nat} {sl : List (Option Nat)} {As rest st : List Value} {ty : FieldType} {r : vw_C} (hd : decode (pm_c k) pc = .ok (.invokevirtual idx, 3)) (hl : pm_LV (pm_o k) idx k2) (hok : pm_ok k2) (hr : pm_r k2 = some ty) (hst : st = As.reverse ++ .ref b :: rest) (hn : As.length + 1 = pm_na k2) (hmx : As.length + 1 ≤ pm_l k2) (hcat : As.all (fun v => v.category == 1) = true) (hw : pm_wo k2 = pm_wo k) (hs : (pm_sh (pm_wo k))[b]? = some (.inl (ci, sl))) (hci : vwCl[ci]? = some r) (hC : r.1 = (pm_y k2).cls) (hR : pm_rok k k2) (hc : (rest.map fun v => v.category).sum ≤ 8)
    (h : pm_P k2 0 (pm_ent 0 (.ref b :: As)) [] A (fun r1 A1 => pm_P k (pc + 3) L (.int r1 :: rest) A1 Q)) : pm_P k pc L st A Q := by
  intro p l e s m args below meth c ad D tyc H locs ls C hP hS hL
  have hCC := C
  obtain ⟨hx, hb, hret, hml, hown, hts, hlk, hK, hin, hokk, hcl⟩ := C
  have hin2 : pm_inj (pm_wo k2) ad := by rw [hw]; exact hin
  have hM := pm_met hok hcl h (by simpa using hmx) (by rw [List.all_cons, hcat]; rfl) l ad D tyc hin2
  rw [pm_Qi_eq hr, hw] at hM
  obtain ⟨w1, w2, w3, w4⟩ := hl
  rw [← hokk.2.2.1] at w1
  have hT : GoodIn (pm_ws k) (wsV (pm_y k).cls idx (pm_y k2).cls (pm_y k2) (pm_ws k2)) := by
    intro w hw9
    rcases List.mem_append.mp hw9 with h9 | h9
    · have h8 : w ∈ pm_W := by
        simp only [List.mem_cons, List.not_mem_nil, or_false] at h9
        rcases h9 with rfl | rfl | rfl | rfl
        · exact w1
        · exact w2
        · exact w3
        · exact hok.2.2.2.1
      exact ⟨List.mem_cons_of_mem _ h8, good_of_word (List.mem_filter.mp h8).2⟩
    · exact pm_good k2 hok w h9
  have hnn : (parseMethodDescriptor (pm_y k2).desc).map (fun d => d.parameters.length) = some As.length := by
    cases hp : parseMethodDescriptor (pm_y k2).desc with
    | none => rw [hp] at w4; cases w4
    | some d =>
      rw [hp] at w4
      have h1 : d.parameters.length + 1 = pm_na k2 := Option.some.inj w4
      show some d.parameters.length = some As.length
      congr 1
      omega
  have cw := cwV (R := pm_rm k) (mc := 0) (ms := 0) (rm := pm_rm k2) As.length hts hT rfl rfl rfl ⟨rfl, hok.2.2.2.2.1, hok.2.2.2.2.2, hnn⟩ hR
  subst hst
  rw [show (As.reverse ++ Value.ref b :: rest).map (tv ad) = (As.map (tv ad)).reverse ++ Value.ref (ad b) :: rest.map (tv ad) by simp [tv]]
  refine va_calli (va_runV (As := As.map (tv ad)) (rest := rest.map (tv ad)) ⟨hx, hb, hml, hown, hts⟩ hM cw ⟨pm_blind (as := .ref b :: As), by rw [← hC]; exact va_recv hK hP (ci := ci) (q0 := b) hci (pm_w_get hs), fun U hU hW => ⟨rfl, by rw [hU]; exact hP, va_K.moved hW.alike hK⟩⟩ rfl (by simp) hL.1 rfl (lv_room (by rw [pm_catsum]; exact hc)) hd ⟨Nat.zero_le _, Nat.zero_le _⟩) hS (fun q _ h => h) (fun q h => h) (fun r1 u t H1 locs1 ht hvm hq hB hz hk1 hS1 => ?_)
  obtain ⟨hB1, hB2⟩ := hB
  rw [ht] at hB1
  exact hq p l e s m args below meth c ad D tyc H1 locs1 ls hCC hB1 hS1 hL
/-- a virtual call that answers nothing -/
theorem pm_callVv {k2 idx b ci : Nat} {sl : List (Option Nat)} {As rest st : List Value} {r : vw_C} (hd : decode (pm_c k) pc = .ok (.invokevirtual idx, 3)) (hl : pm_LV (pm_o k) idx k2) (hok : pm_ok k2) (hr : pm_r k2 = none) (hst : st = As.reverse ++ .ref b :: rest) (hn : As.length + 1 = pm_na k2) (hmx : As.length + 1 ≤ pm_l k2) (hcat : As.all (fun v => v.category == 1) = true) (hw : pm_wo k2 = pm_wo k) (hs : (pm_sh (pm_wo k))[b]? = some (.inl (ci, sl))) (hci : vwCl[ci]? = some r) (hC : r.1 = (pm_y k2).cls) (hR : pm_rok k k2) (hc : (rest.map fun v => v.category).sum ≤ 8)
    (h : pm_P k2 0 (pm_ent 0 (.ref b :: As)) [] A (fun _ A1 => pm_P k (pc + 3) L rest A1 Q)) : pm_P k pc L st A Q := by
  intro p l e s m args below meth c ad D tyc H locs ls C hP hS hL
  have hCC := C
  obtain ⟨hx, hb, hret, hml, hown, hts, hlk, hK, hin, hokk, hcl⟩ := C
  have hin2 : pm_inj (pm_wo k2) ad := by rw [hw]; exact hin
  have hM := pm_met hok hcl h (by simpa using hmx) (by rw [List.all_cons, hcat]; rfl) l ad D tyc hin2
  rw [pm_Qv_eq hr, hw] at hM
  obtain ⟨w1, w2, w3, w4⟩ := hl
  rw [← hokk.2.2.1] at w1
  have hT : GoodIn (pm_ws k) (wsV (pm_y k).cls idx (pm_y k2).cls (pm_y k2) (pm_ws k2)) := by
    intro w hw9
    rcases List.mem_append.mp hw9 with h9 | h9
    · have h8 : w ∈ pm_W := by
        simp only [List.mem_cons, List.not_mem_nil, or_false] at h9
        rcases h9 with rfl | rfl | rfl | rfl
        · exact w1
        · exact w2
        · exact w3
        · exact hok.2.2.2.1
      exact ⟨List.mem_cons_of_mem _ h8, good_of_word (List.mem_filter.mp h8).2⟩
    · exact pm_good k2 hok w h9
  have hnn : (parseMethodDescriptor (pm_y k2).desc).map (fun d => d.parameters.length) = some As.length := by
    cases hp : parseMethodDescriptor (pm_y k2).desc with
    | none => rw [hp] at w4; cases w4
    | some d =>
      rw [hp] at w4
      have h1 : d.parameters.length + 1 = pm_na k2 := Option.some.inj w4
      show some d.parameters.length = some As.length
      congr 1
      omega
  have cw := cwV (R := pm_rm k) (mc := 0) (ms := 0) (rm := pm_rm k2) As.length hts hT rfl rfl rfl ⟨rfl, hok.2.2.2.2.1, hok.2.2.2.2.2, hnn⟩ hR
  subst hst
  rw [show (As.reverse ++ Value.ref b :: rest).map (tv ad) = (As.map (tv ad)).reverse ++ Value.ref (ad b) :: rest.map (tv ad) by simp [tv]]
  refine va_callv (va_runV (As := As.map (tv ad)) (rest := rest.map (tv ad)) ⟨hx, hb, hml, hown, hts⟩ hM cw ⟨pm_blind (as := .ref b :: As), by rw [← hC]; exact va_recv hK hP (ci := ci) (q0 := b) hci (pm_w_get hs), fun U hU hW => ⟨rfl, by rw [hU]; exact hP, va_K.moved hW.alike hK⟩⟩ rfl (by simp) hL.1 rfl (lv_room (by rw [pm_catsum]; exact hc)) hd ⟨Nat.zero_le _, Nat.zero_le _⟩) hS (fun q _ h => h) (fun q h => h) (fun u t H1 locs1 ht hvm hq hB hz hk1 hS1 => ?_)
  obtain ⟨hB1, hB2⟩ := hB
  rw [ht] at hB1
  exact hq p l e s m args below meth c ad D tyc H1 locs1 ls hCC hB1 hS1 hL
theorem pm_goodS {idx k2 : Nat} (hl : pm_LS (pm_o k) idx k2) (hokk : pm_ok k) (hok : pm_ok k2) : GoodIn (pm_ws k) (va_wsS (pm_y k).cls idx (pm_y k2) (pm_ws k2)) := by
  obtain ⟨w1, w2, w4⟩ := hl
  rw [← hokk.2.2.1] at w1
  intro w hw9
  rcases List.mem_append.mp hw9 with h9 | h9
  · have h8 : w ∈ pm_W := by
      simp only [List.mem_cons, List.not_mem_nil, or_false] at h9
      rcases h9 with rfl | rfl | rfl
      · exact w1
      · exact w2
      · exact hok.2.2.2.1
    exact ⟨List.mem_cons_of_mem _ h8, good_of_word (List.mem_filter.mp h8).2⟩
  · exact pm_good k2 hok w h9
/-- a static call that answers an int -/
theorem pm_callS {k2 idx : Nat} {As rest st : List Value} {ty : FieldType} (hd : decode (pm_c k) pc = .ok (.invokestatic idx, 3)) (hl : pm_LS (pm_o k) idx k2) (hok : pm_ok k2) (hr : pm_r k2 = some ty) (hst : st = As.reverse ++ rest) (hn : As.length = pm_na k2) (hmx : As.length ≤ pm_l k2) (hcat : As.all (fun v => v.category == 1) = true) (hw : pm_wo k2 = pm_wo k) (hR : pm_rok k k2) (hc : (rest.map fun v => v.category).sum ≤ 8)
    (h : pm_P k2 0 (pm_ent 0 As) [] A (fun r1 A1 => pm_P k (pc + 3) L (.int r1 :: rest) A1 Q)) : pm_P k pc L st A Q := by
  intro p l e s m args below meth c ad D tyc H locs ls C hP hS hL
  have hCC := C
  obtain ⟨hx, hb, hret, hml, hown, hts, hlk, hK, hin, hokk, hcl⟩ := C
  have hin2 : pm_inj (pm_wo k2) ad := by rw [hw]; exact hin
  have hM := pm_met hok hcl h hmx hcat l ad D tyc hin2
  rw [pm_Qi_eq hr, hw] at hM
  have cw := va_cwS (R := pm_rm k) (mc := 0) (ms := 0) (rm := pm_rm k2) As.length hts (pm_goodS hl hokk hok) rfl rfl rfl ⟨hok.2.2.2.2.1, hok.2.2.2.2.2, by rw [hl.2.2, hn]⟩ hR
  subst hst
  rw [show (As.reverse ++ rest).map (tv ad) = (As.map (tv ad)).reverse ++ rest.map (tv ad) by simp]
  refine va_calli (va_runS (As := As.map (tv ad)) (rest := rest.map (tv ad)) ⟨hx, hb, hml, hown, hts⟩ hM cw ⟨pm_blind (as := As), fun U hU hW => ⟨rfl, by rw [hU]; exact hP, va_K.moved hW.alike hK⟩⟩ rfl (by simp) hL.1 rfl (lv_room (by rw [pm_catsum]; exact hc)) hd ⟨Nat.zero_le _, Nat.zero_le _⟩) hS (fun q _ h => h) (fun q h => h) (fun r1 u t H1 locs1 ht hvm hq hB hz hk1 hS1 => ?_)
  obtain ⟨hB1, hB2⟩ := hB
  rw [ht] at hB1
  exact hq p l e s m args below meth c ad D tyc H1 locs1 ls hCC hB1 hS1 hL
/-- a static call that answers nothing -/
theorem pm_callSv {k2 idx : Nat} {As rest st : List Value} (hd : decode (pm_c k) pc = .ok (.invokestatic idx, 3)) (hl : pm_LS (pm_o k) idx k2) (hok : pm_ok k2) (hr : pm_r k2 = none) (hst : st = As.reverse ++ rest) (hn : As.length = pm_na k2) (hmx : As.length ≤ pm_l k2) (hcat : As.all (fun v => v.category == 1) = true) (hw : pm_wo k2 = pm_wo k) (hR : pm_rok k k2) (hc : (rest.map fun v => v.category).sum ≤ 8)
    (h : pm_P k2 0 (pm_ent 0 As) [] A (fun _ A1 => pm_P k (pc + 3) L rest A1 Q)) : pm_P k pc L st A Q := by
  intro p l e s m args below meth c ad D tyc H locs ls C hP hS hL
  have hCC := C
  obtain ⟨hx, hb, hret, hml, hown, hts, hlk, hK, hin, hokk, hcl⟩ := C
  have hin2 : pm_inj (pm_wo k2) ad := by rw [hw]; exact hin
  have hM := pm_met hok hcl h hmx hcat l ad D tyc hin2
  rw [pm_Qv_eq hr, hw] at hM
  have cw := va_cwS (R := pm_rm k) (mc := 0) (ms := 0) (rm := pm_rm k2) As.length hts (pm_goodS hl hokk hok) rfl rfl rfl ⟨hok.2.2.2.2.1, hok.2.2.2.2.2, by rw [hl.2.2, hn]⟩ hR
  subst hst
  rw [show (As.reverse ++ rest).map (tv ad) = (As.map (tv ad)).reverse ++ rest.map (tv ad) by simp]
  refine va_callv (va_runS (As := As.map (tv ad)) (rest := rest.map (tv ad)) ⟨hx, hb, hml, hown, hts⟩ hM cw ⟨pm_blind (as := As), fun U hU hW => ⟨rfl, by rw [hU]; exact hP, va_K.moved hW.alike hK⟩⟩ rfl (by simp) hL.1 rfl (lv_room (by rw [pm_catsum]; exact hc)) hd ⟨Nat.zero_le _, Nat.zero_le _⟩) hS (fun q _ h => h) (fun q h => h) (fun u t H1 locs1 ht hvm hq hB hz hk1 hS1 => ?_)
  obtain ⟨hB1, hB2⟩ := hB
  rw [ht] at hB1
  exact hq p l e s m args below meth c ad D tyc H1 locs1 ls hCC hB1 hS1 hL
/-- System.arraycopy of a whole row of booleans, from place 0 to place 0 -/
theorem pm_copyz {idx b1 b2 n1 n2 : Nat} {n : Int32} {st : List Value} (hd : decode (pm_c k) pc = .ok (.invokestatic idx, 3)) (hl : pm_LA (pm_o k) idx) (hs1 : (pm_sh (pm_wo k))[b1]? = some (.inr (2, n1))) (hs2 : (pm_sh (pm_wo k))[b2]? = some (.inr (2, n2))) (h0 : ¬ n < 0) (hn1 : n.toNatClampNeg ≤ n1) (hn2 : n.toNatClampNeg ≤ n2) (hfit : ∀ i, i < n.toNatClampNeg → A b1 i = 0 ∨ A b1 i = 1) (hfr : 1 ≤ (pm_rm k).frames) (hlo : (st.map fun v => v.category).sum + (nativeFrameWords "java/lang/System" "arraycopy" 5 + 11) ≤ (pm_rm k).locals)
    (h : pm_P k (pc + 3) L st (fun c q => if c = b2 ∧ q < n.toNatClampNeg then A b1 q else A c q) Q) : pm_P k pc L (.int n :: .int 0 :: .ref b2 :: .int 0 :: .ref b1 :: st) A Q := by
  intro p l e s m args below meth c ad D tyc H locs ls C hP hS hL
  have hCC := C
  obtain ⟨hx, hb, hret, hml, hown, hts, hlk, hK, hin, hokk, hcl⟩ := C
  obtain ⟨w1, w2, w3, w4⟩ := hl
  rw [← hokk.2.2.1] at w1
  have z0 : (0 : Int32).toNatClampNeg = 0 := by decide
  refine va_copyi (ty := .boolean) hx hb (hml.trans hL.1.symm) hown (pm_hts hts w1) (pm_hts hts w2) (pm_hts hts w3) (pm_hts hts w4) hK hP (pm_w_D hin) hS b1 b2 2 2 (pm_w_get hs1) (pm_w_get hs2) rfl rfl rfl (by decide) (by decide) h0 (by rw [z0]; omega) (by rw [z0]; omega) (fun i hi => ?_) hfr (by rw [pm_catsum]; exact hlo) hd (fun H1 locs1 hP1 hD1 hS1 => ?_)
  · rw [z0, Nat.zero_add]
    rcases hfit i hi with h9 | h9 <;> rw [h9] <;> rfl
  · rw [pm_w_set hs2 (A2 := fun c q => if c = b2 ∧ q < n.toNatClampNeg then A b1 q else A c q) (by
      show (Sum.inl (tyc 2, n2, _) : va_E) = Sum.inl (tyc 2, n2, if 2 = 4 then _ else _)
      rw [if_neg (by decide)]
      congr 4
      funext q
      simp [va_cpy, z0]) (fun c hc => by funext q; simp [hc])] at hP1
    exact h p l e s m args below meth c ad D tyc H1 locs1 ls hCC hP1 hS1 hL
def pm_LM (own idx : Nat) (y : MethodName) (cc : ByteArray) (n : Nat) : Prop := Cond.methodLink (pm_own own) idx y ∈ pm_W ∧ Cond.static y ∈ pm_W ∧ Cond.initialized "java/lang/Math" ∈ pm_W ∧ Cond.code y cc n (some .int) ∈ pm_W
theorem pm_mmax {idx : Nat} {x y : Int32} {st : List Value} (hd : decode (pm_c k) pc = .ok (.invokestatic idx, 3)) (hl : pm_LM (pm_o k) idx Lib.Math.max.name Lib.Math.max.code 2) (hfr : 1 ≤ (pm_rm k).frames) (hlo : (st.map fun v => v.category).sum + 13 ≤ (pm_rm k).locals)
    (h : pm_P k (pc + 3) L (.int (if x < y then y else x) :: st) A Q) : pm_P k pc L (.int y :: .int x :: st) A Q := by
  intro p l e s m args below meth c ad D tyc H locs ls C hP hS hL
  have hgo := h p l e s m args below meth c ad D tyc H locs ls C hP hS hL
  obtain ⟨hx, hb, hret, hml, hown, hts, hlk, hK, hin, hokk, hcl⟩ := C
  obtain ⟨w1, w2, w3, w4⟩ := hl
  rw [← hokk.2.2.1] at w1
  exact va_mmax hx hb (hml.trans hL.1.symm) hown (pm_hts hts w1) (pm_hts hts w2) (pm_hts hts w3) (pm_hts hts w4) hfr (by rw [pm_catsum]; exact hlo) (Nat.zero_le _) (Nat.zero_le _) hd hgo
theorem pm_mmin {idx : Nat} {x y : Int32} {st : List Value} (hd : decode (pm_c k) pc = .ok (.invokestatic idx, 3)) (hl : pm_LM (pm_o k) idx Lib.Math.min.name Lib.Math.min.code 2) (hfr : 1 ≤ (pm_rm k).frames) (hlo : (st.map fun v => v.category).sum + 13 ≤ (pm_rm k).locals)
    (h : pm_P k (pc + 3) L (.int (if y < x then y else x) :: st) A Q) : pm_P k pc L (.int y :: .int x :: st) A Q := by
  intro p l e s m args below meth c ad D tyc H locs ls C hP hS hL
  have hgo := h p l e s m args below meth c ad D tyc H locs ls C hP hS hL
  obtain ⟨hx, hb, hret, hml, hown, hts, hlk, hK, hin, hokk, hcl⟩ := C
  obtain ⟨w1, w2, w3, w4⟩ := hl
  rw [← hokk.2.2.1] at w1
  exact va_mmin hx hb (hml.trans hL.1.symm) hown (pm_hts hts w1) (pm_hts hts w2) (pm_hts hts w3) (pm_hts hts w4) hfr (by rw [pm_catsum]; exact hlo) (Nat.zero_le _) (Nat.zero_le _) hd hgo
theorem pm_mabs {idx : Nat} {x : Int32} {st : List Value} (hd : decode (pm_c k) pc = .ok (.invokestatic idx, 3)) (hl : pm_LM (pm_o k) idx Lib.Math.abs.name Lib.Math.abs.code 1) (hfr : 1 ≤ (pm_rm k).frames) (hlo : (st.map fun v => v.category).sum + 13 ≤ (pm_rm k).locals)
    (h : pm_P k (pc + 3) L (.int (if 0 ≤ x then x else 0 - x) :: st) A Q) : pm_P k pc L (.int x :: st) A Q := by
  intro p l e s m args below meth c ad D tyc H locs ls C hP hS hL
  have hgo := h p l e s m args below meth c ad D tyc H locs ls C hP hS hL
  obtain ⟨hx, hb, hret, hml, hown, hts, hlk, hK, hin, hokk, hcl⟩ := C
  obtain ⟨w1, w2, w3, w4⟩ := hl
  rw [← hokk.2.2.1] at w1
  exact va_mabs hx hb (hml.trans hL.1.symm) hown (pm_hts hts w1) (pm_hts hts w2) (pm_hts hts w3) (pm_hts hts w4) hfr (by rw [pm_catsum]; exact hlo) (Nat.zero_le _) (Nat.zero_le _) hd hgo
end PMC
