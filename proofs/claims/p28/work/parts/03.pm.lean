/-! THE SYSTEM AS TWO PURE WORLDS. A world's cells are fixed (pm_sh): every object names the same cells for ever; what changes is a memory 'cell, place -> Int32'. pm_P says: from here method number k, with these locals, stack and memory, ends, and its answer and memory hold Q. Its rows (pm_..) turn it at one instruction into itself at the next. -/
abbrev Mem : Type := Nat → Nat → Int32
abbrev pm_D : Type := (Nat × List (Option Nat)) ⊕ (Nat × Nat)
abbrev Lcs : Type := List (Nat × Value)
def pm_z : MethodName × ByteArray × Nat × Option FieldType × Nat × Nat × Nat × Nat := (⟨"", "", ""⟩, code, 0, none, 0, 0, 0, 0)
def pm_q (k : Nat) : MethodName × ByteArray × Nat × Option FieldType × Nat × Nat × Nat × Nat := pm_mt.getD k pm_z
def pm_y (k : Nat) : MethodName := (pm_q k).1
def pm_c (k : Nat) : ByteArray := (pm_q k).2.1
def pm_l (k : Nat) : Nat := (pm_q k).2.2.1
def pm_r (k : Nat) : Option FieldType := (pm_q k).2.2.2.1
def pm_o (k : Nat) : Nat := (pm_q k).2.2.2.2.1
def pm_na (k : Nat) : Nat := (pm_q k).2.2.2.2.2.2.2
def pm_rm (k : Nat) : Room := { frames := (pm_q k).2.2.2.2.2.1, cells := 0, slots := 0, locals := (pm_q k).2.2.2.2.2.2.1 }
def pm_wo (k : Nat) : Nat := if pm_o k = 11 then 1 else 0
def pm_own (n : Nat) : String := pm_on.getD n ""
def pm_sh (w : Nat) : List pm_D := if w = 0 then pm_sh0 else pm_sh1
def pm_W : List Cond := lw_tbl.filter goodWord
def pm_ws (k : Nat) : List Cond := .code (pm_y k) (pm_c k) (pm_l k) (pm_r k) :: pm_W
theorem pm_in {w : Cond} (i : Nat) (h : lw_tbl[i]? = some w) (hg : goodWord w = true) : w ∈ pm_W := List.mem_filter.mpr ⟨List.mem_of_getElem? h, hg⟩
theorem pm_inL (ws : List Cond) (ps : List Nat) (hp : ws = ps.filterMap (fun i => lw_tbl[i]?)) (h : ws.all goodWord = true) : ∀ w ∈ ws, w ∈ pm_W := by
  intro w hw
  have h1 := List.all_eq_true.mp h w hw
  rw [hp] at hw
  obtain ⟨i, -, hi⟩ := List.mem_filterMap.mp hw
  exact List.mem_filter.mpr ⟨List.mem_of_getElem? hi, h1⟩
/-- what the tables say of a method -/
def pm_ok (k : Nat) : Prop := Cond.code (pm_y k) (pm_c k) (pm_l k) (pm_r k) ∈ pm_W ∧ plainName (pm_y k).cls = true ∧ (pm_y k).cls = pm_own (pm_o k) ∧ Cond.initialized (pm_y k).cls ∈ pm_W ∧ (pm_y k).cls ≠ "java/lang/invoke/MethodHandle" ∧ (pm_y k).cls ≠ "java/lang/invoke/VarHandle"
def pm_LV (own idx k : Nat) : Prop := Cond.methodLink (pm_own own) idx (pm_y k) ∈ pm_W ∧ Cond.instanceMethod (pm_y k) ∈ pm_W ∧ Cond.selects (pm_y k).cls (pm_y k) (pm_y k) ∈ pm_W ∧ (parseMethodDescriptor (pm_y k).desc).map (fun d => d.parameters.length + 1) = some (pm_na k)
def pm_LS (own idx k : Nat) : Prop := Cond.methodLink (pm_own own) idx (pm_y k) ∈ pm_W ∧ Cond.static (pm_y k) ∈ pm_W ∧ (parseMethodDescriptor (pm_y k).desc).map (fun d => d.parameters.length) = some (pm_na k)
def pm_LF (own idx ci j : Nat) : Prop := ∃ q : vw_C, vwCl[ci]? = some q ∧ j < q.2.2 ∧ Cond.fieldLink (pm_own own) idx (q.2.1 j).1 (q.2.1 j).2.1 (q.2.1 j).2.2.1 ∈ pm_W
def pm_LP (own idx ci j : Nat) : Prop := ∃ q : vw_C, vwCl[ci]? = some q ∧ j < q.2.2 ∧ Cond.fieldLink (pm_own own) idx (q.2.1 j).1 (q.2.1 j).2.1 (q.2.1 j).2.2.1 ∈ pm_W ∧ (q.2.1 j).2.2.2 = false ∧ (q.2.1 j).2.2.1 = "I"
def pm_LA (own idx : Nat) : Prop := Cond.methodLink (pm_own own) idx arraycopyName ∈ pm_W ∧ Cond.native arraycopyName ∈ pm_W ∧ Cond.static arraycopyName ∈ pm_W ∧ Cond.initialized "java/lang/System" ∈ pm_W
def pm_LL (own idx : Nat) (v : Int64) : Prop := Cond.constantLong (pm_own own) idx v ∈ pm_W
/-- of each class: its fields' words, types, names -/
def pm_cls : Prop := ∀ (ci : Nat) (q : vw_C), vwCl[ci]? = some q → (∀ w ∈ u_ws q.1 q.2.1 q.2.2, w ∈ pm_W) ∧ (∃ ty0 : Nat → FieldType, ∀ k, k < q.2.2 → parseFieldDescriptor (q.2.1 k).2.2.1 = some (ty0 k)) ∧ (∀ a, a < q.2.2 → ∀ b, b < q.2.2 → a ≠ b → (q.2.1 a).2.1 ≠ (q.2.1 b).2.1)
-- values, locals, memory
def tv (ad : Nat → Nat) : Value → Value
  | .ref i => .ref (ad i)
  | v => v
def pm_g : Lcs → Nat → Option Value
  | [], _ => none
  | (j, v) :: t, i => if j = i then some v else pm_g t i
def pm_ins : Lcs → Nat → Value → Lcs
  | [], i, v => [(i, v)]
  | (j, w) :: t, i, v => if j < i then (j, w) :: pm_ins t i v else (i, v) :: (j, w) :: t
def pm_s1 (L : Lcs) (i : Nat) (v : Value) : Lcs := pm_ins (L.filter (fun q => !(q.1 == i) && !(q.1 + 1 == i && q.2.category == 2))) i v
def pm_s2 (L : Lcs) (i : Nat) (v : Value) : Lcs := pm_ins (L.filter (fun q => !(q.1 == i) && (!(q.1 == i + 1) && !(q.1 + 1 == i && q.2.category == 2)))) i v
def pm_ent : Nat → List Value → Lcs
  | _, [] => []
  | i, v :: vs => (i, v) :: pm_ent (i + 1) vs
def mset (A : Mem) (b j : Nat) (v : Int32) : Mem := fun c q => if c = b then (if q = j then v else A c q) else A c q
def pm_fv (ad : Nat → Nat) (a : Nat → Int32) (j : Nat) : Option Nat → Value
  | some t => .ref (ad t)
  | none => .int (a j)
def pm_e (ad : Nat → Nat) (tyc : Nat → ClassId) (a : Nat → Int32) : pm_D → va_E
  | .inl (ci, sl) => .inr (ci, sl.mapIdx (pm_fv ad a))
  | .inr (t, len) => .inl (tyc t, len, if t = 4 then .inr (.inr (.inr (.inr (fun j => some (ad (a j).toNatClampNeg))))) else .inl a)
def pm_w (w : Nat) (ad : Nat → Nat) (tyc : Nat → ClassId) (A : Mem) : va_W := (pm_sh w).mapIdx (fun i d => (ad i, pm_e ad tyc (A i) d))
def pm_A (w : Nat) (ad : Nat → Nat) : Nat → Prop := fun q => ∃ i, i < (pm_sh w).length ∧ q = ad i
def pm_inj (w : Nat) (ad : Nat → Nat) : Prop := ∀ i j, i < (pm_sh w).length → j < (pm_sh w).length → ad i = ad j → i = j
def pm_ts (tyc : Nat → ClassId) : List (ClassId × FieldType) := [(tyc 0, .int), (tyc 1, .int), (tyc 2, .boolean), (tyc 3, .char), (tyc 4, .object RX6)]
def pm_B (w : Nat) (ad : Nat → Nat) (D : va_G) (tyc : Nat → ClassId) : Mem → State → Prop := fun A t => va_P D vwCl (pm_w w ad tyc A) t.heap ∧ va_K D vwCl (pm_ts tyc) t
def pm_Q (k : Nat) (ad : Nat → Nat) (D : va_G) (tyc : Nat → ClassId) (Q : Int32 → Mem → Prop) : Array Value → State → Outcome → State → Prop := match pm_r k with
  | none => va_Qv (fun A : Mem => Q 0 A) (pm_B (pm_wo k) ad D tyc) (pm_A (pm_wo k) ad)
  | some _ => va_Qi (fun (r : Int32) (A : Mem) => Q r A) (pm_B (pm_wo k) ad D tyc) (pm_A (pm_wo k) ad)
/-- where a method's body stands -/
def pm_C (k : Nat) (p : Program) (s : State) (m : MethodId) (args : Array Value) (meth : Method) (c : Code) (ad : Nat → Nat) (D : va_G) (tyc : Nat → ClassId) : Prop :=
  p.tables.exec = Jvm.exec ∧ c.code = pm_c k ∧ meth.sig.returnType = pm_r k ∧ c.maxLocals = pm_l k ∧ s.vm.findClass (pm_y k).cls = some m.cls ∧ (∀ w ∈ pm_ws k, w.before args s = true) ∧ meth.locks = false ∧ va_K D vwCl (pm_ts tyc) s ∧ pm_inj (pm_wo k) ad ∧ pm_ok k ∧ pm_cls
def pm_P (k pc : Nat) (L : Lcs) (st : List Value) (A : Mem) (Q : Int32 → Mem → Prop) : Prop :=
  ∀ (p : Program) (l : Launch) (e : Env) (s : State) (m : MethodId) (args : Array Value) (below : List Frame) (meth : Method) (c : Code) (ad : Nat → Nat) (D : va_G) (tyc : Nat → ClassId) (H : Heap) (locs : List Loc) (ls : Array Slot),
    pm_C k p s m args meth c ad D tyc → va_P D vwCl (pm_w (pm_wo k) ad tyc A) H → va_S (pm_A (pm_wo k) ad) s.heap H locs → lv_has ls (pm_l k) (L.map (fun q => (q.1, tv ad q.2))) →
    W p l e (pm_rm k) s m args below meth c H locs 0 0 (MQ below (pm_Q k ad D tyc Q) args s 0 0 (pm_A (pm_wo k) ad)) (F0 m pc ls (st.map (tv ad)))
-- words
theorem pm_hts {k : Nat} {args : Array Value} {s : State} (h : ∀ w ∈ pm_ws k, w.before args s = true) {w : Cond} (hw : w ∈ pm_W) : w.before args s = true := h w (List.mem_cons_of_mem _ hw)
theorem pm_good {k : Nat} (k2 : Nat) (hk : pm_ok k2) : GoodIn (pm_ws k) (pm_ws k2) := by
  intro w hw
  have h1 : w ∈ pm_W := by
    rcases List.mem_cons.mp hw with rfl | h
    · exact hk.1
    · exact h
  exact ⟨List.mem_cons_of_mem _ h1, good_of_word (List.mem_filter.mp h1).2⟩
-- the world's list
theorem pm_w_get {w : Nat} {ad : Nat → Nat} {tyc : Nat → ClassId} {A : Mem} {i : Nat} {d : pm_D} (h : (pm_sh w)[i]? = some d) : (pm_w w ad tyc A)[i]? = some (ad i, pm_e ad tyc (A i) d) := by
  simp [pm_w, List.getElem?_mapIdx, h]
theorem pm_w_D {w : Nat} {ad : Nat → Nat} {tyc : Nat → ClassId} {A : Mem} (h : pm_inj w ad) : va_D (pm_A w ad) (pm_w w ad tyc A) := by
  have key : ∀ (i : Nat) (p : Nat × va_E), (pm_w w ad tyc A)[i]? = some p → i < (pm_sh w).length ∧ p.1 = ad i := by
    intro i p hp
    simp only [pm_w, List.getElem?_mapIdx, Option.map_eq_some_iff] at hp
    obtain ⟨d, h1, h2⟩ := hp
    exact ⟨(List.getElem?_eq_some_iff.mp h1).1, by rw [← h2]⟩
  refine ⟨fun i j p q hi hj he => ?_, fun i p hp => ⟨i, (key i p hp).1, (key i p hp).2⟩⟩
  obtain ⟨a1, a2⟩ := key i p hi
  obtain ⟨b1, b2⟩ := key j q hj
  exact h i j a1 b1 (by rw [← a2, ← b2, he])
theorem pm_w_set {w : Nat} {ad : Nat → Nat} {tyc : Nat → ClassId} {A A2 : Mem} {i : Nat} {d : pm_D} {e : va_E} (h : (pm_sh w)[i]? = some d) (he : e = pm_e ad tyc (A2 i) d) (ho : ∀ c, c ≠ i → A2 c = A c) : (pm_w w ad tyc A).set i (ad i, e) = pm_w w ad tyc A2 := by
  apply List.ext_getElem?
  intro j
  rw [List.getElem?_set]
  by_cases hj : i = j
  · subst hj
    have hl : i < (pm_w w ad tyc A).length := by simp [pm_w]; exact (List.getElem?_eq_some_iff.mp h).1
    rw [if_pos rfl, if_pos hl, pm_w_get h, he]
  · rw [if_neg hj]
    simp only [pm_w, List.getElem?_mapIdx]
    rw [ho j (fun q => hj q.symm)]
theorem mset_other {A : Mem} {b j : Nat} {v : Int32} {c : Nat} (h : c ≠ b) : mset A b j v c = A c := by
  funext q
  simp [mset, h]
theorem mset_row (A : Mem) (b j : Nat) (v : Int32) : mset A b j v b = upd (A b) j v := by
  funext q
  simp [mset, upd]
theorem mset_get (A : Mem) (b j : Nat) (v : Int32) (c q : Nat) : mset A b j v c q = if c = b ∧ q = j then v else A c q := by
  by_cases h1 : c = b <;> by_cases h2 : q = j <;> simp [mset, h1, h2]
-- locals
theorem pm_g_mem {L : Lcs} {i : Nat} {v : Value} (h : pm_g L i = some v) : (i, v) ∈ L := by
  induction L with
  | nil => cases h
  | cons q t ih =>
    obtain ⟨j, w⟩ := q
    simp only [pm_g] at h
    by_cases hj : j = i
    · subst hj
      rw [if_pos rfl] at h
      cases h
      exact List.mem_cons_self
    · rw [if_neg hj] at h
      exact List.mem_cons_of_mem _ (ih h)
theorem pm_ins_mem {L : Lcs} {i : Nat} {v : Value} {q : Nat × Value} (h : q ∈ pm_ins L i v) : q = (i, v) ∨ q ∈ L := by
  induction L with
  | nil => simpa [pm_ins] using h
  | cons p t ih =>
    obtain ⟨j, w⟩ := p
    simp only [pm_ins] at h
    by_cases hj : j < i
    · rw [if_pos hj] at h
      rcases List.mem_cons.mp h with h | h
      · exact Or.inr (h ▸ List.mem_cons_self)
      · rcases ih h with h | h
        · exact Or.inl h
        · exact Or.inr (List.mem_cons_of_mem _ h)
    · rw [if_neg hj] at h
      rcases List.mem_cons.mp h with h | h
      · exact Or.inl h
      · exact Or.inr h
theorem tv_cat (ad : Nat → Nat) (v : Value) : (tv ad v).category = v.category := by cases v <;> rfl
theorem pm_read {ad : Nat → Nat} {ls : Array Slot} {n : Nat} {L : Lcs} (h : lv_has ls n (L.map (fun q => (q.1, tv ad q.2)))) {i : Nat} {v : Value} (hv : pm_g L i = some v) : ls[i]? = some (.val (tv ad v)) :=
  h.2.2 (i, tv ad v) (List.mem_map.mpr ⟨(i, v), pm_g_mem hv, rfl⟩)
theorem pm_has_sub {ls : Array Slot} {n : Nat} {l l' : List (Nat × Value)} (h : lv_has ls n l) (hs : ∀ q ∈ l', q ∈ l) : lv_has ls n l' := ⟨h.1, h.2.1, fun q hq => h.2.2 q (hs q hq)⟩
theorem pm_st1 {ad : Nat → Nat} {ls : Array Slot} {n i : Nat} {L : Lcs} {v : Value} (h : lv_has ls n ((i, tv ad v) :: (L.map (fun q => (q.1, tv ad q.2))).filter (fun q => !(q.1 == i) && !(q.1 + 1 == i && q.2.category == 2)))) : lv_has ls n ((pm_s1 L i v).map (fun q => (q.1, tv ad q.2))) := by
  refine pm_has_sub h fun q hq => ?_
  obtain ⟨r, hr, rfl⟩ := List.mem_map.mp hq
  rcases pm_ins_mem hr with rfl | hr
  · exact List.mem_cons_self
  · obtain ⟨h1, h2⟩ := List.mem_filter.mp hr
    refine List.mem_cons_of_mem _ (List.mem_filter.mpr ⟨List.mem_map.mpr ⟨r, h1, rfl⟩, ?_⟩)
    simp only [tv_cat]
    exact h2
theorem pm_st2 {ad : Nat → Nat} {ls : Array Slot} {n i : Nat} {L : Lcs} {v : Value} (h : lv_has ls n ((i, tv ad v) :: (L.map (fun q => (q.1, tv ad q.2))).filter (fun q => !(q.1 == i) && (!(q.1 == i + 1) && !(q.1 + 1 == i && q.2.category == 2))))) : lv_has ls n ((pm_s2 L i v).map (fun q => (q.1, tv ad q.2))) := by
  refine pm_has_sub h fun q hq => ?_
  obtain ⟨r, hr, rfl⟩ := List.mem_map.mp hq
  rcases pm_ins_mem hr with rfl | hr
  · exact List.mem_cons_self
  · obtain ⟨h1, h2⟩ := List.mem_filter.mp hr
    refine List.mem_cons_of_mem _ (List.mem_filter.mpr ⟨List.mem_map.mpr ⟨r, h1, rfl⟩, ?_⟩)
    simp only [tv_cat]
    exact h2
