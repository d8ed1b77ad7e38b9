/-- the classes whose objects the world holds -/
abbrev classes : List vw_C := [(RX0, TX0, 4), (RX1, TX1, 6), (RX2, TX2, 6), (RX3, TX3, 3), (RX4, TX4, 3), (RX5, TX5, 5), (RX6, TX6, 21)]
/-- a word that stays true as the tables warm -/
def mi_tr (w : Cond) : Bool := (w.onTables && w.keeps) || (match w with | .arrayClass _ => true | .fieldLinkNest .. => true | .methodLinkNest .. => true | .declares _ => true | .castable .. => true | .arrayOver (.object _) => true | _ => false)
theorem mi_word {args a' : Array Value} {s U : State} (hW : s.WarmedH U.vm) {w : Cond} (hw : mi_tr w = true) (h : w.before args s = true) : w.before a' U = true := by
  unfold mi_tr at hw
  rw [Bool.or_eq_true] at hw
  rcases hw with hw | hw
  · exact word_at hW (Or.inl hw) h
  · split at hw
    · exact word_at hW (Or.inr ⟨_, rfl⟩) h
    · exact va_Nw.use rfl (va_Nw.warmF hW (va_Nw.of rfl h))
    · exact va_Nw.use rfl (va_Nw.warmM hW (va_Nw.of rfl h))
    · exact va_Nw.use rfl (va_Nw.warmD hW (va_Nw.of rfl h))
    · exact va_Nw.use rfl (va_Nw.warmC hW (va_Nw.of rfl h))
    · exact va_AO.use ((va_AO.of h).moved hW.alike)
    · cases hw
/-- the words that every method of the walk may use -/
def mi_T : List Cond := lw_tbl.filter mi_tr
theorem lw_tr : ∀ w ∈ mi_T, mi_tr w = true := fun _ h => (List.mem_filter.mp h).2
theorem mi_in {w : Cond} (i : Nat) (h : tables_1[i]? = some w) (ht : mi_tr w = true) : w ∈ mi_T := List.mem_filter.mpr ⟨List.mem_append_right _ (List.mem_of_getElem? h), ht⟩
theorem mi_inP {w : Cond} (i : Nat) (h : (k2_sels lw_privs)[i]? = some w) (ht : mi_tr w = true) : w ∈ mi_T := List.mem_filter.mpr ⟨List.mem_append_left _ (List.mem_of_getElem? h), ht⟩
/-! A method's walk with the whole world in hand: MW. It wraps W: the caller's machine, room, words and frame stand in mi_Pre, so that a row here speaks of pc, locals, stack, cells alone. -/
/-- a method: own class, code, locals, return type, handlers, name -/
abbrev mi_M : Type := String × ByteArray × Nat × Option FieldType × List (Nat × Nat × Nat × Nat) × String
/-- what stays the same in the whole run: the launch, the classes' numbers, the array classes, the script (cell, length, ints) -/
abbrev mi_E : Type := Launch × va_G × List (ClassId × FieldType) × Nat × Nat × (Nat → Int32)
/-- how a method ended: returned (a value or none), or threw an object of the n-th class of mi_exn -/
abbrev mi_O : Type := Option Value ⊕ Nat
def mi_L (ls : Array Slot) (n : Nat) (lv : List (Option Value)) : Prop := ls.size = n ∧ lv_wf ls ∧ ∀ (i : Nat) (v : Value), lv[i]? = some (some v) → ls[i]? = some (.val v)
def mi_al (n : Nat) (lv : List (Option Value)) : List (Nat × Value) := (List.range n).filterMap (fun i => match lv[i]? with | some (some v) => some (i, v) | _ => none)
theorem mi_al_mem {n : Nat} {lv : List (Option Value)} {q : Nat × Value} : q ∈ mi_al n lv ↔ q.1 < n ∧ lv[q.1]? = some (some q.2) := by
  obtain ⟨i, v⟩ := q
  unfold mi_al
  rw [List.mem_filterMap]
  constructor
  · rintro ⟨j, hj, h⟩
    rw [List.mem_range] at hj
    split at h
    · next w hw =>
      cases h
      exact ⟨hj, hw⟩
    · cases h
  · rintro ⟨h1, h2⟩
    refine ⟨i, List.mem_range.mpr h1, ?_⟩
    simp only at h2
    rw [h2]
theorem mi_L.has {ls : Array Slot} {n : Nat} {lv : List (Option Value)} (h : mi_L ls n lv) : lv_has ls n (mi_al n lv) := by
  refine ⟨h.1, h.2.1, fun q hq => ?_⟩
  exact h.2.2 q.1 q.2 (mi_al_mem.mp hq).2
/-- no long stands just before i -/
def mi_nl (lv : List (Option Value)) : Nat → Bool
  | 0 => true
  | j + 1 => match lv[j]? with
    | some (some v) => v.category == 1
    | _ => true
theorem mi_L.back {ls' : Array Slot} {n i : Nat} {lv : List (Option Value)} {v : Value} (hj : mi_nl lv i = true)
    (h : lv_has ls' n ((i, v) :: (mi_al n lv).filter (fun q => !(q.1 == i) && !(q.1 + 1 == i && q.2.category == 2)))) (hlen : lv.length ≤ n) : mi_L ls' n (lv.set i (some v)) := by
  refine ⟨h.1, h.2.1, fun k w hk => ?_⟩
  by_cases hki : k = i
  · subst hki
    rw [List.getElem?_set_self'] at hk
    cases hl : lv[k]? with
    | none => rw [hl] at hk; cases hk
    | some z =>
      rw [hl] at hk
      have hk : (some (some v) : Option (Option Value)) = some (some w) := hk
      cases hk
      exact h.2.2 (k, v) List.mem_cons_self
  · rw [List.getElem?_set_ne (fun q => hki q.symm)] at hk
    have hkn : k < n := Nat.lt_of_lt_of_le (List.getElem?_eq_some_iff.mp hk).1 hlen
    refine h.2.2 (k, w) (List.mem_cons_of_mem _ (List.mem_filter.mpr ⟨mi_al_mem.mpr ⟨hkn, hk⟩, ?_⟩))
    have h1 : (k == i) = false := by simp [hki]
    have h2 : (k + 1 == i && w.category == 2) = false := by
      by_cases hk1 : k + 1 = i
      · subst hk1
        simp only [mi_nl, hk] at hj
        have hj : w.category = 1 := by simpa using hj
        simp [hj]
      · simp [hk1]
    simp only [h1, h2]
    rfl
theorem mi_L.forget {ls : Array Slot} {n : Nat} {lv lv' : List (Option Value)} (h : mi_L ls n lv) (hs : ∀ (i : Nat) (v : Value), lv'[i]? = some (some v) → lv[i]? = some (some v)) : mi_L ls n lv' :=
  ⟨h.1, h.2.1, fun i v hv => h.2.2 i v (hs i v hv)⟩

/-- the texts of the exceptions: class, entry, text -/
def mi_strs : List (String × Nat × String) := [("TruckLoads", 45, "no such cell"), ("TruckLoads", 214, "a number outside its range"), ("TruckLoads", 59, "a pallet stands there"), ("TruckLoads", 72, "the second axle is not behind the first"), ("TruckLoads", 216, "the doors are open"), ("TruckLoads", 94, "no room for a pallet"), ("TruckLoads", 218, "there is a seal"), ("TruckLoads", 211, "no such pallet"), ("TruckLoads", 136, "the doors are shut"), ("TruckLoads", 147, "no pallet stands"), ("TruckLoads", 165, "the pallet stands"), ("TruckLoads", 182, "no room for a seal"), ("TruckLoads", 193, "there is no seal"), ("TruckLoads", 198, "below 0")]
/-- which exceptions a catch doesn't take -/
def mi_ncs : List (String × String) := [("java/lang/ArithmeticException", "java/lang/IllegalArgumentException"), ("java/lang/IllegalArgumentException", "java/lang/ArrayIndexOutOfBoundsException"), ("java/lang/IllegalArgumentException", "java/util/NoSuchElementException"), ("java/lang/IllegalStateException", "java/lang/ArrayIndexOutOfBoundsException"), ("java/lang/IllegalStateException", "java/lang/IllegalArgumentException"), ("java/lang/IllegalStateException", "java/util/NoSuchElementException"), ("java/lang/UnsupportedOperationException", "java/lang/IllegalArgumentException"), ("java/lang/UnsupportedOperationException", "java/lang/IllegalStateException")]
/-- what a throw needs of the world outside A -/
def mi_Th (l : Launch) (A : Nat → Prop) (s : State) (H : Heap) : Prop := l.stackTraces = false ∧ vx_Zq Bundle.tN "UNASSIGNED_STACK" Bundle.steD A s H ∧ vx_Zq Bundle.tN "SUPPRESSED_SENTINEL" Bundle.listD A s H ∧ (∀ q ∈ mi_strs, ∃ sa : Nat, vk_R q.1 q.2.1 q.2.2 sa s) ∧ (∀ q ∈ mi_ncs, va_Nc q.1 q.2 s)
theorem mi_Th.call {l : Launch} {A B : Nat → Prop} {u U : State} {H H1 : Heap} (hW : u.WarmedH U.vm) (h : mi_Th l A u H) (hk : ∀ a : Nat, a < H.size → ¬ A a → H1[a]? = H[a]?) (hs : ∀ q, B q → A q) : mi_Th l B U H1 := by
  obtain ⟨h0, h1, h2, h3, h4⟩ := h
  refine ⟨h0, ((h1.kept hk).moved hW.alike).narrow hs, ((h2.kept hk).moved hW.alike).narrow hs, fun q hq => ?_, fun q hq => (h4 q hq).moved hW.alike⟩
  obtain ⟨sa, h5⟩ := h3 q hq
  exact ⟨sa, h5.warm hW⟩
def mi_CC : Nat := room_1.cells
def mi_CS : Nat := room_1.slots
def mi_exn : Nat → String
  | 0 => "java/util/NoSuchElementException"
  | 1 => "java/lang/IllegalArgumentException"
  | 2 => "java/lang/IllegalStateException"
  | 3 => "java/lang/UnsupportedOperationException"
  | 4 => "java/lang/ArithmeticException"
  | _ => "java/lang/ArrayIndexOutOfBoundsException"
def mi_oc (o : mi_O) (oc : Outcome) (t : State) : Prop := match o with
  | .inl v => oc = .returned v
  | .inr k => ∃ (x : Addr) (cell : Cell), oc = .threw x ∧ t.heap[x]? = some cell ∧ cell.vm = .none ∧ t.vm.findClass (mi_exn k) = some cell.cls
/-- what the method's end leaves -/
def mi_End (E : mi_E) (A : Nat → Prop) (s : State) (below : List Frame) (cb sb : Nat) (o : mi_O) (h : va_W) (mc ms : Nat) (t : State) : Prop :=
  ∃ (oc : Outcome) (locs : List Loc), t.status = .running ∧ Ended t below oc ∧ s.WarmedH t.vm ∧ s.sameButNew ({ t with vm := s.vm } : State) locs (mc - cb) (ms - sb) ∧ va_S A s.heap t.heap locs ∧ va_P E.2.1 classes h t.heap ∧ va_D A h ∧ mi_oc o oc t ∧ cb ≤ mc ∧ sb ≤ ms ∧ mc ≤ mi_CC ∧ ms ≤ mi_CS
def mi_hs (c : Code) (hs : List (Nat × Nat × Nat × Nat)) : Prop := c.exceptionTable.toList.map (fun x => (x.startPc, x.endPc, x.handlerPc, x.catchType)) = hs
/-- what a walk stands on -/
def mi_Pre (E : mi_E) (M : mi_M) (d : Nat) (lv : List (Option Value)) (h : va_W) (mc ms : Nat) (p : Program) (R : Room) (s : State) (m : MethodId) (args : Array Value) (meth : Method) (c : Code) (H : Heap) (locs : List Loc) (ls : Array Slot) (A : Nat → Prop) (cb sb : Nat) : Prop :=
  (p.tables.exec = Jvm.exec ∧ c.code = M.2.1 ∧ c.maxLocals = M.2.2.1 ∧ s.vm.findClass M.1 = some m.cls ∧ meth.sig.returnType = M.2.2.2.1 ∧ meth.locks = false ∧ mi_hs c M.2.2.2.2.1 ∧ meth.name = M.2.2.2.2.2) ∧
  ((∀ w ∈ mi_T, w.before args s = true) ∧ va_K E.2.1 classes E.2.2.1 s ∧ va_X E.2.2.2.1 E.2.2.2.2.1 E.2.2.2.2.2 s s.heap ∧ E.2.2.2.1 < s.heap.size ∧ ¬ A E.2.2.2.1 ∧ mi_Th E.1 A s s.heap) ∧
  (mi_L ls M.2.2.1 lv ∧ lv.length ≤ M.2.2.1) ∧
  (va_P E.2.1 classes h H ∧ va_D A h ∧ va_S A s.heap H locs ∧ (∀ q, s.heap.size ≤ q → A q)) ∧
  (d ≤ R.frames ∧ 64 * d ≤ R.locals ∧ mi_CC ≤ R.cells + cb ∧ mi_CS ≤ R.slots + sb) ∧ cb ≤ mc ∧ sb ≤ ms ∧ mc ≤ mi_CC ∧ ms ≤ mi_CS
/-- from here the method comes to an end with Q -/
def MW (E : mi_E) (M : mi_M) (d pc : Nat) (lv : List (Option Value)) (st : List Value) (h : va_W) (mc ms : Nat) (Q : mi_O → va_W → Nat → Nat → Prop) : Prop :=
  ∀ (p : Program) (e : Env) (R : Room) (s : State) (m : MethodId) (args : Array Value) (below : List Frame) (meth : Method) (c : Code) (H : Heap) (locs : List Loc) (ls : Array Slot) (A : Nat → Prop) (cb sb : Nat) (Z : State → Prop),
    mi_Pre E M d lv h mc ms p R s m args meth c H locs ls A cb sb →
    (∀ (o : mi_O) (h' : va_W) (mc' ms' : Nat) (t : State), Q o h' mc' ms' → mi_End E A s below cb sb o h' mc' ms' t → Z t) →
    W p E.1 e R s m args below meth c H locs (mc - cb) (ms - sb) Z (F0 m pc ls st)
section MWrows
variable {E : mi_E} {M : mi_M} {d pc : Nat} {lv : List (Option Value)} {st : List Value} {h : va_W} {mc ms : Nat} {Q : mi_O → va_W → Nat → Nat → Prop}
theorem W.mono {p : Program} {l : Launch} {e : Env} {R : Room} {s : State} {m : MethodId} {args : Array Value} {below : List Frame} {meth : Method} {c : Code} {H : Heap} {locs : List Loc} {cells slots : Nat} {Q1 Q2 : State → Prop} {g : JFrame} (k : W p l e R s m args below meth c H locs cells slots Q1 g) (hq : ∀ t, Q1 t → Q2 t) : W p l e R s m args below meth c H locs cells slots Q2 g := fun T hT X => by
  obtain ⟨t, a, b⟩ := k T hT X
  exact ⟨t, a, hq t b⟩
theorem MW.mono {Q' : mi_O → va_W → Nat → Nat → Prop} (k : MW E M d pc lv st h mc ms Q) (hq : ∀ o h' mc' ms', Q o h' mc' ms' → Q' o h' mc' ms') : MW E M d pc lv st h mc ms Q' := by
  intro p e R s m args below meth c H locs ls A cb sb Z hp hz
  exact k p e R s m args below meth c H locs ls A cb sb Z hp (fun o h' mc' ms' t q => hz o h' mc' ms' t (hq _ _ _ _ q))
/-- the locals that are no longer looked at -/
theorem MW.drop {lv' : List (Option Value)} (hs : ∀ (i : Nat) (v : Value), lv'[i]? = some (some v) → lv[i]? = some (some v)) (hl : lv'.length ≤ lv.length) (k : MW E M d pc lv' st h mc ms Q) : MW E M d pc lv st h mc ms Q := by
  intro p e R s m args below meth c H locs ls A cb sb Z hp hz
  exact k p e R s m args below meth c H locs ls A cb sb Z ⟨hp.1, hp.2.1, ⟨hp.2.2.1.1.forget hs, Nat.le_trans hl hp.2.2.1.2⟩, hp.2.2.2⟩ hz

theorem MW.iconst {n : Int} {v : Int32} (hd : decode M.2.1 pc = .ok (Instr.iconst n, 1)) (hv : Int32.ofInt n = v) (k : MW E M d (pc + 1) lv (.int v :: st) h mc ms Q) : MW E M d pc lv (st) h mc ms Q := by
  intro p e R s m args below meth c H locs ls A cb sb Z hp hz
  exact lv_iconst hp.1.1 hp.1.2.1 hd hv (k p e R s m args below meth c H locs ls A cb sb Z hp hz)
theorem MW.bipush {n : Int} {v : Int32} (hd : decode M.2.1 pc = .ok (Instr.bipush n, 2)) (hv : (Int8.ofInt n).toInt32 = v) (k : MW E M d (pc + 2) lv (.int v :: st) h mc ms Q) : MW E M d pc lv (st) h mc ms Q := by
  intro p e R s m args below meth c H locs ls A cb sb Z hp hz
  exact lv_bipush hp.1.1 hp.1.2.1 hd hv (k p e R s m args below meth c H locs ls A cb sb Z hp hz)
theorem MW.sipush {n : Int} {v : Int32} (hd : decode M.2.1 pc = .ok (Instr.sipush n, 3)) (hv : (Int16.ofInt n).toInt32 = v) (k : MW E M d (pc + 3) lv (.int v :: st) h mc ms Q) : MW E M d pc lv (st) h mc ms Q := by
  intro p e R s m args below meth c H locs ls A cb sb Z hp hz
  exact lv_sipush hp.1.1 hp.1.2.1 hd hv (k p e R s m args below meth c H locs ls A cb sb Z hp hz)
theorem MW.ldc {idx : Nat} {v : Int32} (hd : decode M.2.1 pc = .ok (Instr.ldc idx, 2)) (hw : Cond.constant M.1 idx v ∈ mi_T) (k : MW E M d (pc + 2) lv (.int v :: st) h mc ms Q) : MW E M d pc lv (st) h mc ms Q := by
  intro p e R s m args below meth c H locs ls A cb sb Z hp hz
  exact lv_ldc hp.1.1 hp.1.2.1 hp.1.2.2.2.1 (hp.2.1.1 _ hw) hd (k p e R s m args below meth c H locs ls A cb sb Z hp hz)
theorem MW.lconst {n : Fin 2} {v : Int64} (hd : decode M.2.1 pc = .ok (Instr.lconst n, 1)) (hv : Int64.ofNat (n : Nat) = v) (k : MW E M d (pc + 1) lv (.long v :: st) h mc ms Q) : MW E M d pc lv (st) h mc ms Q := by
  intro p e R s m args below meth c H locs ls A cb sb Z hp hz
  exact lv_lconst hp.1.1 hp.1.2.1 hd hv (k p e R s m args below meth c H locs ls A cb sb Z hp hz)
theorem MW.anull  (hd : decode M.2.1 pc = .ok (Instr.aconst_null, 1)) (k : MW E M d (pc + 1) lv (.null :: st) h mc ms Q) : MW E M d pc lv (st) h mc ms Q := by
  intro p e R s m args below meth c H locs ls A cb sb Z hp hz
  exact lv_null hp.1.1 hp.1.2.1 hd (k p e R s m args below meth c H locs ls A cb sb Z hp hz)
theorem MW.iload_n {kk : Fin 4} {x : Int32} (hd : decode M.2.1 pc = .ok (Instr.iload_n kk, 1)) (hl : lv[(kk : Nat)]? = some (some (.int x))) (k : MW E M d (pc + 1) lv (.int x :: st) h mc ms Q) : MW E M d pc lv (st) h mc ms Q := by
  intro p e R s m args below meth c H locs ls A cb sb Z hp hz
  exact lv_iload_n hp.1.1 hp.1.2.1 hd rfl (hp.2.2.1.1.2.2 _ _ hl) (k p e R s m args below meth c H locs ls A cb sb Z hp hz)
theorem MW.iload {i : Nat} {x : Int32} (hd : decode M.2.1 pc = .ok (Instr.iload i, 2)) (hl : lv[i]? = some (some (.int x))) (k : MW E M d (pc + 2) lv (.int x :: st) h mc ms Q) : MW E M d pc lv (st) h mc ms Q := by
  intro p e R s m args below meth c H locs ls A cb sb Z hp hz
  exact lv_iload hp.1.1 hp.1.2.1 hd (hp.2.2.1.1.2.2 _ _ hl) (k p e R s m args below meth c H locs ls A cb sb Z hp hz)
theorem MW.aload_n {kk : Fin 4} {x : Nat} (hd : decode M.2.1 pc = .ok (Instr.aload_n kk, 1)) (hl : lv[(kk : Nat)]? = some (some (.ref x))) (k : MW E M d (pc + 1) lv (.ref x :: st) h mc ms Q) : MW E M d pc lv (st) h mc ms Q := by
  intro p e R s m args below meth c H locs ls A cb sb Z hp hz
  exact lv_aload_n hp.1.1 hp.1.2.1 hd rfl (hp.2.2.1.1.2.2 _ _ hl) (k p e R s m args below meth c H locs ls A cb sb Z hp hz)
theorem MW.aload {i : Nat} {x : Nat} (hd : decode M.2.1 pc = .ok (Instr.aload i, 2)) (hl : lv[i]? = some (some (.ref x))) (k : MW E M d (pc + 2) lv (.ref x :: st) h mc ms Q) : MW E M d pc lv (st) h mc ms Q := by
  intro p e R s m args below meth c H locs ls A cb sb Z hp hz
  exact lv_aload hp.1.1 hp.1.2.1 hd (hp.2.2.1.1.2.2 _ _ hl) (k p e R s m args below meth c H locs ls A cb sb Z hp hz)
theorem MW.lload_n {kk : Fin 4} {x : Int64} (hd : decode M.2.1 pc = .ok (Instr.lload_n kk, 1)) (hl : lv[(kk : Nat)]? = some (some (.long x))) (k : MW E M d (pc + 1) lv (.long x :: st) h mc ms Q) : MW E M d pc lv (st) h mc ms Q := by
  intro p e R s m args below meth c H locs ls A cb sb Z hp hz
  exact lv_lload_n hp.1.1 hp.1.2.1 hd rfl (hp.2.2.1.1.2.2 _ _ hl) (k p e R s m args below meth c H locs ls A cb sb Z hp hz)
theorem MW.lload {i : Nat} {x : Int64} (hd : decode M.2.1 pc = .ok (Instr.lload i, 2)) (hl : lv[i]? = some (some (.long x))) (k : MW E M d (pc + 2) lv (.long x :: st) h mc ms Q) : MW E M d pc lv (st) h mc ms Q := by
  intro p e R s m args below meth c H locs ls A cb sb Z hp hz
  exact lv_lload hp.1.1 hp.1.2.1 hd (hp.2.2.1.1.2.2 _ _ hl) (k p e R s m args below meth c H locs ls A cb sb Z hp hz)
theorem MW.istore_n {kk : Fin 4} {x : Int32} (hd : decode M.2.1 pc = .ok (Instr.istore_n kk, 1)) (hn : Nat.ble ((kk : Nat) + 1) M.2.2.1 = true) (hj : mi_nl lv (kk : Nat) = true) (k : MW E M d (pc + 1) (lv.set (kk : Nat) (some (.int x))) st h mc ms Q) : MW E M d pc lv (.int x :: st) h mc ms Q := by
  intro p e R s m args below meth c H locs ls A cb sb Z hp hz
  refine lv_istore_n hp.1.1 hp.1.2.1 hd rfl hp.2.2.1.1.has (Nat.le_of_ble_eq_true hn) rfl (fun ls' hl => ?_)
  exact k p e R s m args below meth c H locs ls' A cb sb Z ⟨hp.1, hp.2.1, ⟨mi_L.back hj hl hp.2.2.1.2, by rw [List.length_set]; exact hp.2.2.1.2⟩, hp.2.2.2⟩ hz
theorem MW.istore {i : Nat} {x : Int32} (hd : decode M.2.1 pc = .ok (Instr.istore i, 2)) (hn : Nat.ble (i + 1) M.2.2.1 = true) (hj : mi_nl lv i = true) (k : MW E M d (pc + 2) (lv.set i (some (.int x))) st h mc ms Q) : MW E M d pc lv (.int x :: st) h mc ms Q := by
  intro p e R s m args below meth c H locs ls A cb sb Z hp hz
  refine lv_istore hp.1.1 hp.1.2.1 hd hp.2.2.1.1.has (Nat.le_of_ble_eq_true hn) rfl (fun ls' hl => ?_)
  exact k p e R s m args below meth c H locs ls' A cb sb Z ⟨hp.1, hp.2.1, ⟨mi_L.back hj hl hp.2.2.1.2, by rw [List.length_set]; exact hp.2.2.1.2⟩, hp.2.2.2⟩ hz
theorem MW.astore_n {kk : Fin 4} {x : Nat} (hd : decode M.2.1 pc = .ok (Instr.astore_n kk, 1)) (hn : Nat.ble ((kk : Nat) + 1) M.2.2.1 = true) (hj : mi_nl lv (kk : Nat) = true) (k : MW E M d (pc + 1) (lv.set (kk : Nat) (some (.ref x))) st h mc ms Q) : MW E M d pc lv (.ref x :: st) h mc ms Q := by
  intro p e R s m args below meth c H locs ls A cb sb Z hp hz
  refine lv_astore_n hp.1.1 hp.1.2.1 hd rfl hp.2.2.1.1.has (Nat.le_of_ble_eq_true hn) rfl (fun ls' hl => ?_)
  exact k p e R s m args below meth c H locs ls' A cb sb Z ⟨hp.1, hp.2.1, ⟨mi_L.back hj hl hp.2.2.1.2, by rw [List.length_set]; exact hp.2.2.1.2⟩, hp.2.2.2⟩ hz
theorem MW.astore {i : Nat} {x : Nat} (hd : decode M.2.1 pc = .ok (Instr.astore i, 2)) (hn : Nat.ble (i + 1) M.2.2.1 = true) (hj : mi_nl lv i = true) (k : MW E M d (pc + 2) (lv.set i (some (.ref x))) st h mc ms Q) : MW E M d pc lv (.ref x :: st) h mc ms Q := by
  intro p e R s m args below meth c H locs ls A cb sb Z hp hz
  refine lv_astore hp.1.1 hp.1.2.1 hd hp.2.2.1.1.has (Nat.le_of_ble_eq_true hn) rfl (fun ls' hl => ?_)
  exact k p e R s m args below meth c H locs ls' A cb sb Z ⟨hp.1, hp.2.1, ⟨mi_L.back hj hl hp.2.2.1.2, by rw [List.length_set]; exact hp.2.2.1.2⟩, hp.2.2.2⟩ hz
theorem MW.iinc {i : Nat} {n : Int} {x v : Int32} (hd : decode M.2.1 pc = .ok (Instr.iinc i n, 3)) (hl : lv[i]? = some (some (.int x))) (hv : x + Int32.ofInt n = v) (hn : Nat.ble (i + 1) M.2.2.1 = true) (hj : mi_nl lv i = true) (k : MW E M d (pc + 3) (lv.set i (some (.int v))) st h mc ms Q) : MW E M d pc lv st h mc ms Q := by
  intro p e R s m args below meth c H locs ls A cb sb Z hp hz
  have hmem : (i, Value.int x) ∈ mi_al M.2.2.1 lv := mi_al_mem.mpr ⟨Nat.le_of_ble_eq_true hn, hl⟩
  obtain ⟨k0, hk0⟩ := List.getElem?_of_mem hmem
  refine lv_iinc hp.1.1 hp.1.2.1 hd hp.2.2.1.1.has hk0 hv (Nat.le_of_ble_eq_true hn) rfl (fun ls' hl => ?_)
  exact k p e R s m args below meth c H locs ls' A cb sb Z ⟨hp.1, hp.2.1, ⟨mi_L.back hj hl hp.2.2.1.2, by rw [List.length_set]; exact hp.2.2.1.2⟩, hp.2.2.2⟩ hz
theorem MW.iadd {x y : Int32} (hd : decode M.2.1 pc = .ok (Instr.iadd, 1)) (k : MW E M d (pc + 1) lv (.int (x + y) :: st) h mc ms Q) : MW E M d pc lv (.int y :: .int x :: st) h mc ms Q := by
  intro p e R s m args below meth c H locs ls A cb sb Z hp hz
  exact lv_iadd hp.1.1 hp.1.2.1 hd (k p e R s m args below meth c H locs ls A cb sb Z hp hz)
theorem MW.isub {x y : Int32} (hd : decode M.2.1 pc = .ok (Instr.isub, 1)) (k : MW E M d (pc + 1) lv (.int (x - y) :: st) h mc ms Q) : MW E M d pc lv (.int y :: .int x :: st) h mc ms Q := by
  intro p e R s m args below meth c H locs ls A cb sb Z hp hz
  exact lv_isub hp.1.1 hp.1.2.1 hd (k p e R s m args below meth c H locs ls A cb sb Z hp hz)
theorem MW.imul {x y : Int32} (hd : decode M.2.1 pc = .ok (Instr.imul, 1)) (k : MW E M d (pc + 1) lv (.int (x * y) :: st) h mc ms Q) : MW E M d pc lv (.int y :: .int x :: st) h mc ms Q := by
  intro p e R s m args below meth c H locs ls A cb sb Z hp hz
  exact lv_imul hp.1.1 hp.1.2.1 hd (k p e R s m args below meth c H locs ls A cb sb Z hp hz)
theorem MW.iand {x y : Int32} (hd : decode M.2.1 pc = .ok (Instr.iand, 1)) (k : MW E M d (pc + 1) lv (.int (x &&& y) :: st) h mc ms Q) : MW E M d pc lv (.int y :: .int x :: st) h mc ms Q := by
  intro p e R s m args below meth c H locs ls A cb sb Z hp hz
  exact lv_iand hp.1.1 hp.1.2.1 hd (k p e R s m args below meth c H locs ls A cb sb Z hp hz)
theorem MW.ior {x y : Int32} (hd : decode M.2.1 pc = .ok (Instr.ior, 1)) (k : MW E M d (pc + 1) lv (.int (x ||| y) :: st) h mc ms Q) : MW E M d pc lv (.int y :: .int x :: st) h mc ms Q := by
  intro p e R s m args below meth c H locs ls A cb sb Z hp hz
  exact lv_ior hp.1.1 hp.1.2.1 hd (k p e R s m args below meth c H locs ls A cb sb Z hp hz)
theorem MW.ixor {x y : Int32} (hd : decode M.2.1 pc = .ok (Instr.ixor, 1)) (k : MW E M d (pc + 1) lv (.int (x ^^^ y) :: st) h mc ms Q) : MW E M d pc lv (.int y :: .int x :: st) h mc ms Q := by
  intro p e R s m args below meth c H locs ls A cb sb Z hp hz
  exact lv_ixor hp.1.1 hp.1.2.1 hd (k p e R s m args below meth c H locs ls A cb sb Z hp hz)
theorem MW.ladd {x y : Int64} (hd : decode M.2.1 pc = .ok (Instr.ladd, 1)) (k : MW E M d (pc + 1) lv (.long (x + y) :: st) h mc ms Q) : MW E M d pc lv (.long y :: .long x :: st) h mc ms Q := by
  intro p e R s m args below meth c H locs ls A cb sb Z hp hz
  exact lv_ladd hp.1.1 hp.1.2.1 hd (k p e R s m args below meth c H locs ls A cb sb Z hp hz)
theorem MW.lsub {x y : Int64} (hd : decode M.2.1 pc = .ok (Instr.lsub, 1)) (k : MW E M d (pc + 1) lv (.long (x - y) :: st) h mc ms Q) : MW E M d pc lv (.long y :: .long x :: st) h mc ms Q := by
  intro p e R s m args below meth c H locs ls A cb sb Z hp hz
  exact lv_lsub hp.1.1 hp.1.2.1 hd (k p e R s m args below meth c H locs ls A cb sb Z hp hz)
theorem MW.lmul {x y : Int64} (hd : decode M.2.1 pc = .ok (Instr.lmul, 1)) (k : MW E M d (pc + 1) lv (.long (x * y) :: st) h mc ms Q) : MW E M d pc lv (.long y :: .long x :: st) h mc ms Q := by
  intro p e R s m args below meth c H locs ls A cb sb Z hp hz
  exact lv_lmul hp.1.1 hp.1.2.1 hd (k p e R s m args below meth c H locs ls A cb sb Z hp hz)
theorem MW.ineg {x : Int32} (hd : decode M.2.1 pc = .ok (Instr.ineg, 1)) (k : MW E M d (pc + 1) lv (.int (-x) :: st) h mc ms Q) : MW E M d pc lv (.int x :: st) h mc ms Q := by
  intro p e R s m args below meth c H locs ls A cb sb Z hp hz
  exact lv_ineg hp.1.1 hp.1.2.1 hd (k p e R s m args below meth c H locs ls A cb sb Z hp hz)
theorem MW.idiv {x y : Int32} (hd : decode M.2.1 pc = .ok (Instr.idiv, 1)) (hne : ¬ y = 0) (k : MW E M d (pc + 1) lv (.int (x / y) :: st) h mc ms Q) : MW E M d pc lv (.int y :: .int x :: st) h mc ms Q := by
  intro p e R s m args below meth c H locs ls A cb sb Z hp hz
  exact lv_idiv hp.1.1 hp.1.2.1 hd hne (k p e R s m args below meth c H locs ls A cb sb Z hp hz)
theorem MW.irem {x y : Int32} (hd : decode M.2.1 pc = .ok (Instr.irem, 1)) (hne : ¬ y = 0) (k : MW E M d (pc + 1) lv (.int (x - x / y * y) :: st) h mc ms Q) : MW E M d pc lv (.int y :: .int x :: st) h mc ms Q := by
  intro p e R s m args below meth c H locs ls A cb sb Z hp hz
  exact lv_irem hp.1.1 hp.1.2.1 hd hne (k p e R s m args below meth c H locs ls A cb sb Z hp hz)
theorem MW.i2l {x : Int32} (hd : decode M.2.1 pc = .ok (Instr.i2l, 1)) (k : MW E M d (pc + 1) lv (.long x.toInt64 :: st) h mc ms Q) : MW E M d pc lv (.int x :: st) h mc ms Q := by
  intro p e R s m args below meth c H locs ls A cb sb Z hp hz
  exact lv_i2l hp.1.1 hp.1.2.1 hd rfl (k p e R s m args below meth c H locs ls A cb sb Z hp hz)
theorem MW.l2i {x : Int64} (hd : decode M.2.1 pc = .ok (Instr.l2i, 1)) (k : MW E M d (pc + 1) lv (.int x.toInt32 :: st) h mc ms Q) : MW E M d pc lv (.long x :: st) h mc ms Q := by
  intro p e R s m args below meth c H locs ls A cb sb Z hp hz
  exact lv_l2i hp.1.1 hp.1.2.1 hd rfl (k p e R s m args below meth c H locs ls A cb sb Z hp hz)
theorem MW.lcmp {x y : Int64} (hd : decode M.2.1 pc = .ok (Instr.lcmp, 1)) (k : MW E M d (pc + 1) lv (.int (lg_cmp x y) :: st) h mc ms Q) : MW E M d pc lv (.long y :: .long x :: st) h mc ms Q := by
  intro p e R s m args below meth c H locs ls A cb sb Z hp hz
  exact W.lcmp hp.1.1 hp.1.2.1 hd (k p e R s m args below meth c H locs ls A cb sb Z hp hz)
theorem MW.dup {v : Value} (hd : decode M.2.1 pc = .ok (Instr.dup, 1)) (hv : v.category = 1) (k : MW E M d (pc + 1) lv (v :: v :: st) h mc ms Q) : MW E M d pc lv (v :: st) h mc ms Q := by
  intro p e R s m args below meth c H locs ls A cb sb Z hp hz
  exact lv_dup hp.1.1 hp.1.2.1 hd hv (k p e R s m args below meth c H locs ls A cb sb Z hp hz)
theorem MW.pop {v : Value} (hd : decode M.2.1 pc = .ok (Instr.pop, 1)) (hv : v.category = 1) (k : MW E M d (pc + 1) lv (st) h mc ms Q) : MW E M d pc lv (v :: st) h mc ms Q := by
  intro p e R s m args below meth c H locs ls A cb sb Z hp hz
  exact lv_pop hp.1.1 hp.1.2.1 hd hv (k p e R s m args below meth c H locs ls A cb sb Z hp hz)
theorem MW.dup_x1 {v w : Value} (hd : decode M.2.1 pc = .ok (Instr.dup_x1, 1)) (hv : v.category = 1) (hw : w.category = 1) (k : MW E M d (pc + 1) lv (v :: w :: v :: st) h mc ms Q) : MW E M d pc lv (v :: w :: st) h mc ms Q := by
  intro p e R s m args below meth c H locs ls A cb sb Z hp hz
  exact lv_dup_x1 hp.1.1 hp.1.2.1 hd hv hw (k p e R s m args below meth c H locs ls A cb sb Z hp hz)
theorem MW.dup2 {v w : Value} (hd : decode M.2.1 pc = .ok (Instr.dup2, 1)) (hv : v.category = 1) (hw : w.category = 1) (k : MW E M d (pc + 1) lv (v :: w :: v :: w :: st) h mc ms Q) : MW E M d pc lv (v :: w :: st) h mc ms Q := by
  intro p e R s m args below meth c H locs ls A cb sb Z hp hz
  exact lv_dup2_11 hp.1.1 hp.1.2.1 hd hv hw (k p e R s m args below meth c H locs ls A cb sb Z hp hz)
theorem MW.if_eq {x : Int32} {off : Int} (tgt : Nat) (hd : decode M.2.1 pc = .ok (Instr.ifCond .eq off, 3)) (ht : (pc : Int) + off = (tgt : Int)) (kt : x = 0 → MW E M d tgt lv st h mc ms Q) (kf : ¬ x = 0 → MW E M d (pc + 3) lv st h mc ms Q) : MW E M d pc lv (.int x :: st) h mc ms Q := by
  intro p e R s m args below meth c H locs ls A cb sb Z hp hz
  exact lv_if_eq hp.1.1 hp.1.2.1 hd ht (fun q => kt q p e R s m args below meth c H locs ls A cb sb Z hp hz) (fun q => kf q p e R s m args below meth c H locs ls A cb sb Z hp hz)
theorem MW.if_ne {x : Int32} {off : Int} (tgt : Nat) (hd : decode M.2.1 pc = .ok (Instr.ifCond .ne off, 3)) (ht : (pc : Int) + off = (tgt : Int)) (kt : ¬ x = 0 → MW E M d tgt lv st h mc ms Q) (kf : x = 0 → MW E M d (pc + 3) lv st h mc ms Q) : MW E M d pc lv (.int x :: st) h mc ms Q := by
  intro p e R s m args below meth c H locs ls A cb sb Z hp hz
  exact lv_if_ne hp.1.1 hp.1.2.1 hd ht (fun q => kt q p e R s m args below meth c H locs ls A cb sb Z hp hz) (fun q => kf q p e R s m args below meth c H locs ls A cb sb Z hp hz)
theorem MW.if_lt {x : Int32} {off : Int} (tgt : Nat) (hd : decode M.2.1 pc = .ok (Instr.ifCond .lt off, 3)) (ht : (pc : Int) + off = (tgt : Int)) (kt : x < 0 → MW E M d tgt lv st h mc ms Q) (kf : ¬ x < 0 → MW E M d (pc + 3) lv st h mc ms Q) : MW E M d pc lv (.int x :: st) h mc ms Q := by
  intro p e R s m args below meth c H locs ls A cb sb Z hp hz
  exact lv_if_lt hp.1.1 hp.1.2.1 hd ht (fun q => kt q p e R s m args below meth c H locs ls A cb sb Z hp hz) (fun q => kf q p e R s m args below meth c H locs ls A cb sb Z hp hz)
theorem MW.if_ge {x : Int32} {off : Int} (tgt : Nat) (hd : decode M.2.1 pc = .ok (Instr.ifCond .ge off, 3)) (ht : (pc : Int) + off = (tgt : Int)) (kt : 0 ≤ x → MW E M d tgt lv st h mc ms Q) (kf : ¬ 0 ≤ x → MW E M d (pc + 3) lv st h mc ms Q) : MW E M d pc lv (.int x :: st) h mc ms Q := by
  intro p e R s m args below meth c H locs ls A cb sb Z hp hz
  exact lv_if_ge hp.1.1 hp.1.2.1 hd ht (fun q => kt q p e R s m args below meth c H locs ls A cb sb Z hp hz) (fun q => kf q p e R s m args below meth c H locs ls A cb sb Z hp hz)
theorem MW.if_gt {x : Int32} {off : Int} (tgt : Nat) (hd : decode M.2.1 pc = .ok (Instr.ifCond .gt off, 3)) (ht : (pc : Int) + off = (tgt : Int)) (kt : 0 < x → MW E M d tgt lv st h mc ms Q) (kf : ¬ 0 < x → MW E M d (pc + 3) lv st h mc ms Q) : MW E M d pc lv (.int x :: st) h mc ms Q := by
  intro p e R s m args below meth c H locs ls A cb sb Z hp hz
  exact lv_if_gt hp.1.1 hp.1.2.1 hd ht (fun q => kt q p e R s m args below meth c H locs ls A cb sb Z hp hz) (fun q => kf q p e R s m args below meth c H locs ls A cb sb Z hp hz)
theorem MW.if_le {x : Int32} {off : Int} (tgt : Nat) (hd : decode M.2.1 pc = .ok (Instr.ifCond .le off, 3)) (ht : (pc : Int) + off = (tgt : Int)) (kt : x ≤ 0 → MW E M d tgt lv st h mc ms Q) (kf : ¬ x ≤ 0 → MW E M d (pc + 3) lv st h mc ms Q) : MW E M d pc lv (.int x :: st) h mc ms Q := by
  intro p e R s m args below meth c H locs ls A cb sb Z hp hz
  exact lv_if_le hp.1.1 hp.1.2.1 hd ht (fun q => kt q p e R s m args below meth c H locs ls A cb sb Z hp hz) (fun q => kf q p e R s m args below meth c H locs ls A cb sb Z hp hz)
theorem MW.icmp_eq {x y : Int32} {off : Int} (tgt : Nat) (hd : decode M.2.1 pc = .ok (Instr.if_icmp .eq off, 3)) (ht : (pc : Int) + off = (tgt : Int)) (kt : x = y → MW E M d tgt lv st h mc ms Q) (kf : ¬ x = y → MW E M d (pc + 3) lv st h mc ms Q) : MW E M d pc lv (.int y :: .int x :: st) h mc ms Q := by
  intro p e R s m args below meth c H locs ls A cb sb Z hp hz
  exact lv_icmp_eq hp.1.1 hp.1.2.1 hd ht (fun q => kt q p e R s m args below meth c H locs ls A cb sb Z hp hz) (fun q => kf q p e R s m args below meth c H locs ls A cb sb Z hp hz)
theorem MW.icmp_ne {x y : Int32} {off : Int} (tgt : Nat) (hd : decode M.2.1 pc = .ok (Instr.if_icmp .ne off, 3)) (ht : (pc : Int) + off = (tgt : Int)) (kt : ¬ x = y → MW E M d tgt lv st h mc ms Q) (kf : x = y → MW E M d (pc + 3) lv st h mc ms Q) : MW E M d pc lv (.int y :: .int x :: st) h mc ms Q := by
  intro p e R s m args below meth c H locs ls A cb sb Z hp hz
  exact lv_icmp_ne hp.1.1 hp.1.2.1 hd ht (fun q => kt q p e R s m args below meth c H locs ls A cb sb Z hp hz) (fun q => kf q p e R s m args below meth c H locs ls A cb sb Z hp hz)
theorem MW.icmp_lt {x y : Int32} {off : Int} (tgt : Nat) (hd : decode M.2.1 pc = .ok (Instr.if_icmp .lt off, 3)) (ht : (pc : Int) + off = (tgt : Int)) (kt : x < y → MW E M d tgt lv st h mc ms Q) (kf : ¬ x < y → MW E M d (pc + 3) lv st h mc ms Q) : MW E M d pc lv (.int y :: .int x :: st) h mc ms Q := by
  intro p e R s m args below meth c H locs ls A cb sb Z hp hz
  exact lv_icmp_lt hp.1.1 hp.1.2.1 hd ht (fun q => kt q p e R s m args below meth c H locs ls A cb sb Z hp hz) (fun q => kf q p e R s m args below meth c H locs ls A cb sb Z hp hz)
theorem MW.icmp_ge {x y : Int32} {off : Int} (tgt : Nat) (hd : decode M.2.1 pc = .ok (Instr.if_icmp .ge off, 3)) (ht : (pc : Int) + off = (tgt : Int)) (kt : y ≤ x → MW E M d tgt lv st h mc ms Q) (kf : ¬ y ≤ x → MW E M d (pc + 3) lv st h mc ms Q) : MW E M d pc lv (.int y :: .int x :: st) h mc ms Q := by
  intro p e R s m args below meth c H locs ls A cb sb Z hp hz
  exact lv_icmp_ge hp.1.1 hp.1.2.1 hd ht (fun q => kt q p e R s m args below meth c H locs ls A cb sb Z hp hz) (fun q => kf q p e R s m args below meth c H locs ls A cb sb Z hp hz)
theorem MW.icmp_gt {x y : Int32} {off : Int} (tgt : Nat) (hd : decode M.2.1 pc = .ok (Instr.if_icmp .gt off, 3)) (ht : (pc : Int) + off = (tgt : Int)) (kt : y < x → MW E M d tgt lv st h mc ms Q) (kf : ¬ y < x → MW E M d (pc + 3) lv st h mc ms Q) : MW E M d pc lv (.int y :: .int x :: st) h mc ms Q := by
  intro p e R s m args below meth c H locs ls A cb sb Z hp hz
  exact lv_icmp_gt hp.1.1 hp.1.2.1 hd ht (fun q => kt q p e R s m args below meth c H locs ls A cb sb Z hp hz) (fun q => kf q p e R s m args below meth c H locs ls A cb sb Z hp hz)
theorem MW.icmp_le {x y : Int32} {off : Int} (tgt : Nat) (hd : decode M.2.1 pc = .ok (Instr.if_icmp .le off, 3)) (ht : (pc : Int) + off = (tgt : Int)) (kt : x ≤ y → MW E M d tgt lv st h mc ms Q) (kf : ¬ x ≤ y → MW E M d (pc + 3) lv st h mc ms Q) : MW E M d pc lv (.int y :: .int x :: st) h mc ms Q := by
  intro p e R s m args below meth c H locs ls A cb sb Z hp hz
  exact lv_icmp_le hp.1.1 hp.1.2.1 hd ht (fun q => kt q p e R s m args below meth c H locs ls A cb sb Z hp hz) (fun q => kf q p e R s m args below meth c H locs ls A cb sb Z hp hz)
theorem MW.goto {off : Int} (tgt : Nat) (hd : decode M.2.1 pc = .ok (Instr.goto off, 3)) (ht : (pc : Int) + off = (tgt : Int)) (k : MW E M d tgt lv st h mc ms Q) : MW E M d pc lv st h mc ms Q := by
  intro p e R s m args below meth c H locs ls A cb sb Z hp hz
  exact lv_goto hp.1.1 hp.1.2.1 hd ht (k p e R s m args below meth c H locs ls A cb sb Z hp hz)
theorem MW.acmp_eq {a b : Nat} {off : Int} (tgt : Nat) (hd : decode M.2.1 pc = .ok (Instr.if_acmp .eq off, 3)) (ht : (pc : Int) + off = (tgt : Int)) (kt : a = b → MW E M d tgt lv st h mc ms Q) (kf : ¬ a = b → MW E M d (pc + 3) lv st h mc ms Q) : MW E M d pc lv (.ref b :: .ref a :: st) h mc ms Q := by
  intro p e R s m args below meth c H locs ls A cb sb Z hp hz
  exact lv_acmp_eq (rx := some a) (ry := some b) hp.1.1 hp.1.2.1 hd ht (fun q => kt (Option.some.inj q) p e R s m args below meth c H locs ls A cb sb Z hp hz) (fun q => kf (fun z => q (congrArg some z)) p e R s m args below meth c H locs ls A cb sb Z hp hz)
theorem MW.acmp_ne {a b : Nat} {off : Int} (tgt : Nat) (hd : decode M.2.1 pc = .ok (Instr.if_acmp .ne off, 3)) (ht : (pc : Int) + off = (tgt : Int)) (kt : ¬ a = b → MW E M d tgt lv st h mc ms Q) (kf : a = b → MW E M d (pc + 3) lv st h mc ms Q) : MW E M d pc lv (.ref b :: .ref a :: st) h mc ms Q := by
  intro p e R s m args below meth c H locs ls A cb sb Z hp hz
  exact lv_acmp_ne (rx := some a) (ry := some b) hp.1.1 hp.1.2.1 hd ht (fun q => kt (fun z => q (congrArg some z)) p e R s m args below meth c H locs ls A cb sb Z hp hz) (fun q => kf (Option.some.inj q) p e R s m args below meth c H locs ls A cb sb Z hp hz)

/-- a class whose objects the world holds -/
def mi_Cl (ci : Nat) (C : String) (T : u_T) (N : Nat) (ty : Nat → FieldType) : Prop := classes[ci]? = some (C, T, N) ∧ (∀ w ∈ u_ws C T N, w ∈ mi_T) ∧ (∀ k, k < N → parseFieldDescriptor (T k).2.2.1 = some (ty k)) ∧ (∀ a, a < N → ∀ b, b < N → a ≠ b → (T a).2.1 ≠ (T b).2.1)
/-- the instruction at pc reads field k of the class ci -/
def mi_Gf (M : mi_M) (pc ci k : Nat) : Prop := ∃ (idx : Nat) (C : String) (T : u_T) (N : Nat) (ty : Nat → FieldType), mi_Cl ci C T N ty ∧ k < N ∧ decode M.2.1 pc = .ok (Instr.getfield idx, 3) ∧ (Cond.fieldLink M.1 idx (T k).1 (T k).2.1 (T k).2.2.1 ∈ mi_T ∨ ∃ host : String, Cond.fieldLinkNest M.1 idx (T k).1 (T k).2.1 (T k).2.2.1 host ∈ mi_T)
/-- .. writes it; the field's type is fty -/
def mi_Pf (M : mi_M) (pc ci k : Nat) (fty : FieldType) : Prop := ∃ (idx : Nat) (C : String) (T : u_T) (N : Nat) (ty : Nat → FieldType), mi_Cl ci C T N ty ∧ k < N ∧ decode M.2.1 pc = .ok (Instr.putfield idx, 3) ∧ parseFieldDescriptor (T k).2.2.1 = some fty ∧
  (((T k).2.2.2 = false ∧ (Cond.fieldLink M.1 idx (T k).1 (T k).2.1 (T k).2.2.1 ∈ mi_T ∨ ∃ host : String, Cond.fieldLinkNest M.1 idx (T k).1 (T k).2.1 (T k).2.2.1 host ∈ mi_T)) ∨ ((T k).2.2.2 = true ∧ M.2.2.2.2.2 = "<init>" ∧ (T k).1 = M.1 ∧ Cond.fieldLink M.1 idx (T k).1 (T k).2.1 (T k).2.2.1 ∈ mi_T))
theorem MW.getf {ci k a : Nat} (hf : mi_Gf M pc ci k) (q0 : Nat) {fs : List Value} {v : Value} (he : h[q0]? = some (a, .inr (ci, fs))) (hv : fs[k]? = some v) (kk : MW E M d (pc + 3) lv (v :: st) h mc ms Q) : MW E M d pc lv (.ref a :: st) h mc ms Q := by
  intro p e R s m args below meth c H locs ls A cb sb Z hp hz
  obtain ⟨idx, C, T, N, ty, ⟨hc, hin, -, -⟩, hk, hd, hl | ⟨host, hl⟩⟩ := hf
  · exact va_get (D := E.2.1) hp.1.1 hp.1.2.1 hp.2.1.1 hin hp.1.2.2.2.1 hp.2.1.2.1 hp.2.2.2.1.1 q0 he hc k hk (hp.2.1.1 _ hl) (fun _ h9 => h9) hv hd (kk p e R s m args below meth c H locs ls A cb sb Z hp hz)
  · exact va_getN (D := E.2.1) hp.1.1 hp.1.2.1 hp.2.1.1 hin hp.1.2.2.2.1 hp.2.1.2.1 hp.2.2.2.1.1 q0 he hc k hk (hp.2.1.1 _ hl) (fun _ h9 => h9) hv hd (kk p e R s m args below meth c H locs ls A cb sb Z hp hz)
theorem MW.putf {ci k a : Nat} {fty : FieldType} (hf : mi_Pf M pc ci k fty) (q0 : Nat) {fs : List Value} {v : Value} (he : h[q0]? = some (a, .inr (ci, fs))) (hn : narrow fty v = v) (hfit : fits fty v = true) (hl : Nat.ble (k + 1) fs.length = true) (kk : MW E M d (pc + 3) lv st (h.set q0 (a, .inr (ci, fs.set k v))) mc ms Q) : MW E M d pc lv (v :: .ref a :: st) h mc ms Q := by
  intro p e R s m args below meth c H locs ls A cb sb Z hp hz
  obtain ⟨idx, C, T, N, ty, ⟨hc, hin, hty, hnm⟩, hk, hd, hd2, ⟨hfin, hw | ⟨host, hw⟩⟩ | ⟨hfin, hin2, hdecl, hw⟩⟩ := hf
  · refine va_put (D := E.2.1) hp.1.1 hp.1.2.1 hp.2.1.1 hin ty hty hnm hp.1.2.2.2.1 hp.2.1.2.1 hp.2.2.2.1.1 hp.2.2.2.1.2.1 hp.2.2.2.1.2.2.1 q0 he hc k hk (hp.2.1.1 _ hw) (fun _ h9 => h9) hfin hd2 hn hfit (Nat.le_of_ble_eq_true hl) hd (fun H1 locs1 hP hD hS => ?_)
    exact kk p e R s m args below meth c H1 locs1 ls A cb sb Z ⟨hp.1, hp.2.1, hp.2.2.1, ⟨hP, hD, hS, hp.2.2.2.1.2.2.2⟩, hp.2.2.2.2⟩ hz
  · refine va_putN (D := E.2.1) hp.1.1 hp.1.2.1 hp.2.1.1 hin ty hty hnm hp.1.2.2.2.1 hp.2.1.2.1 hp.2.2.2.1.1 hp.2.2.2.1.2.1 hp.2.2.2.1.2.2.1 q0 he hc k hk (hp.2.1.1 _ hw) (fun _ h9 => h9) hfin hd2 hn hfit (Nat.le_of_ble_eq_true hl) hd (fun H1 locs1 hP hD hS => ?_)
    exact kk p e R s m args below meth c H1 locs1 ls A cb sb Z ⟨hp.1, hp.2.1, hp.2.2.1, ⟨hP, hD, hS, hp.2.2.2.1.2.2.2⟩, hp.2.2.2.2⟩ hz
  · refine va_putF (D := E.2.1) hp.1.1 hp.1.2.1 hp.2.1.1 hin ty hty hnm hp.1.2.2.2.1 hp.2.1.2.1 hp.2.2.2.1.1 hp.2.2.2.1.2.1 hp.2.2.2.1.2.2.1 q0 he hc k hk (hp.2.1.1 _ hw) (fun _ h9 => h9) hfin (by rw [hp.1.2.2.2.2.2.2.2]; exact hin2) hdecl hd2 hn hfit (Nat.le_of_ble_eq_true hl) hd (fun H1 locs1 hP hD hS => ?_)
    exact kk p e R s m args below meth c H1 locs1 ls A cb sb Z ⟨hp.1, hp.2.1, hp.2.2.1, ⟨hP, hD, hS, hp.2.2.2.1.2.2.2⟩, hp.2.2.2.2⟩ hz

theorem MW.iald (hd : decode M.2.1 pc = .ok (Instr.iaload, 1)) (q0 t0 : Nat) {a n : Nat} {cA : ClassId} {f : Nat → Int32} (he : h[q0]? = some (a, .inl (cA, n, .inl f))) (ht : E.2.2.1[t0]? = some (cA, .int)) {i : Int32} (hin : vp_in i n) (kk : MW E M d (pc + 1) lv (.int (f i.toNatClampNeg) :: st) h mc ms Q) : MW E M d pc lv (.int i :: .ref a :: st) h mc ms Q := by
  intro p e R s m args below meth c H locs ls A cb sb Z hp hz
  exact va_iald (D := E.2.1) hp.1.1 hp.1.2.1 hp.2.1.2.1 hp.2.2.2.1.1 q0 t0 he ht hin hd (kk p e R s m args below meth c H locs ls A cb sb Z hp hz)
theorem MW.zald (hd : decode M.2.1 pc = .ok (Instr.baload, 1)) (q0 t0 : Nat) {a n : Nat} {cA : ClassId} {f : Nat → Int32} (he : h[q0]? = some (a, .inl (cA, n, .inl f))) (ht : E.2.2.1[t0]? = some (cA, .boolean)) {i : Int32} (hin : vp_in i n) (kk : MW E M d (pc + 1) lv (.int (f i.toNatClampNeg) :: st) h mc ms Q) : MW E M d pc lv (.int i :: .ref a :: st) h mc ms Q := by
  intro p e R s m args below meth c H locs ls A cb sb Z hp hz
  exact va_zald (D := E.2.1) hp.1.1 hp.1.2.1 hp.2.1.2.1 hp.2.2.2.1.1 q0 t0 he ht hin hd (kk p e R s m args below meth c H locs ls A cb sb Z hp hz)
theorem MW.bald (hd : decode M.2.1 pc = .ok (Instr.baload, 1)) (q0 t0 : Nat) {a n : Nat} {cA : ClassId} {f : Nat → Int32} (he : h[q0]? = some (a, .inl (cA, n, .inl f))) (ht : E.2.2.1[t0]? = some (cA, .byte)) {i : Int32} (hin : vp_in i n) (kk : MW E M d (pc + 1) lv (.int (f i.toNatClampNeg) :: st) h mc ms Q) : MW E M d pc lv (.int i :: .ref a :: st) h mc ms Q := by
  intro p e R s m args below meth c H locs ls A cb sb Z hp hz
  exact va_bald (D := E.2.1) hp.1.1 hp.1.2.1 hp.2.1.2.1 hp.2.2.2.1.1 q0 t0 he ht hin hd (kk p e R s m args below meth c H locs ls A cb sb Z hp hz)
theorem MW.lald (hd : decode M.2.1 pc = .ok (Instr.laload, 1)) (q0 t0 : Nat) {a n : Nat} {cA : ClassId} {f : Nat → Int64} (he : h[q0]? = some (a, .inl (cA, n, .inr (.inl f)))) (ht : E.2.2.1[t0]? = some (cA, .long)) {i : Int32} (hin : vp_in i n) (kk : MW E M d (pc + 1) lv (.long (f i.toNatClampNeg) :: st) h mc ms Q) : MW E M d pc lv (.int i :: .ref a :: st) h mc ms Q := by
  intro p e R s m args below meth c H locs ls A cb sb Z hp hz
  exact va_lald (D := E.2.1) hp.1.1 hp.1.2.1 hp.2.1.2.1 hp.2.2.2.1.1 q0 t0 he ht hin hd (kk p e R s m args below meth c H locs ls A cb sb Z hp hz)
theorem MW.aald (hd : decode M.2.1 pc = .ok (Instr.aaload, 1)) (q0 t0 : Nat) {a n : Nat} {cA : ClassId} {C : String} {f : Nat → Option Nat} (he : h[q0]? = some (a, .inl (cA, n, .inr (.inr (.inr (.inr f)))))) (ht : E.2.2.1[t0]? = some (cA, .object C)) {i : Int32} (hin : vp_in i n) {v : Nat} (hv : f i.toNatClampNeg = some v) (kk : MW E M d (pc + 1) lv (.ref v :: st) h mc ms Q) : MW E M d pc lv (.int i :: .ref a :: st) h mc ms Q := by
  intro p e R s m args below meth c H locs ls A cb sb Z hp hz
  refine va_aldq (D := E.2.1) hp.1.1 hp.1.2.1 hp.2.1.2.1 hp.2.2.2.1.1 q0 t0 he ht hin hd ?_
  rw [hv]
  exact kk p e R s m args below meth c H locs ls A cb sb Z hp hz
theorem MW.iast (hd : decode M.2.1 pc = .ok (Instr.iastore, 1)) (q0 t0 : Nat) {a n : Nat} {cA : ClassId} {f : Nat → Int32} (he : h[q0]? = some (a, .inl (cA, n, .inl f))) (ht : E.2.2.1[t0]? = some (cA, .int)) {i : Int32} {x : Int32} (hin : vp_in i n) (kk : MW E M d (pc + 1) lv st (h.set q0 (a, .inl (cA, n, .inl (upd f i.toNatClampNeg x)))) mc ms Q) : MW E M d pc lv (.int x :: .int i :: .ref a :: st) h mc ms Q := by
  intro p e R s m args below meth c H locs ls A cb sb Z hp hz
  refine va_iast (D := E.2.1) hp.1.1 hp.1.2.1 hp.2.1.2.1 hp.2.2.2.1.1 hp.2.2.2.1.2.1 hp.2.2.2.1.2.2.1 q0 t0 he ht hin hd (fun H1 locs1 hP hD hS => ?_)
  exact kk p e R s m args below meth c H1 locs1 ls A cb sb Z ⟨hp.1, hp.2.1, hp.2.2.1, ⟨hP, hD, hS, hp.2.2.2.1.2.2.2⟩, hp.2.2.2.2⟩ hz
theorem MW.zast (hd : decode M.2.1 pc = .ok (Instr.bastore, 1)) (q0 t0 : Nat) {a n : Nat} {cA : ClassId} {f : Nat → Int32} (he : h[q0]? = some (a, .inl (cA, n, .inl f))) (ht : E.2.2.1[t0]? = some (cA, .boolean)) {i : Int32} {x : Int32} (hin : vp_in i n) (kk : MW E M d (pc + 1) lv st (h.set q0 (a, .inl (cA, n, .inl (upd f i.toNatClampNeg (vp_nar .boolean x))))) mc ms Q) : MW E M d pc lv (.int x :: .int i :: .ref a :: st) h mc ms Q := by
  intro p e R s m args below meth c H locs ls A cb sb Z hp hz
  refine va_zast (D := E.2.1) hp.1.1 hp.1.2.1 hp.2.1.2.1 hp.2.2.2.1.1 hp.2.2.2.1.2.1 hp.2.2.2.1.2.2.1 q0 t0 he ht hin hd (fun H1 locs1 hP hD hS => ?_)
  exact kk p e R s m args below meth c H1 locs1 ls A cb sb Z ⟨hp.1, hp.2.1, hp.2.2.1, ⟨hP, hD, hS, hp.2.2.2.1.2.2.2⟩, hp.2.2.2.2⟩ hz
theorem MW.bast (hd : decode M.2.1 pc = .ok (Instr.bastore, 1)) (q0 t0 : Nat) {a n : Nat} {cA : ClassId} {f : Nat → Int32} (he : h[q0]? = some (a, .inl (cA, n, .inl f))) (ht : E.2.2.1[t0]? = some (cA, .byte)) {i : Int32} {x : Int32} (hin : vp_in i n) (kk : MW E M d (pc + 1) lv st (h.set q0 (a, .inl (cA, n, .inl (upd f i.toNatClampNeg (vp_nar .byte x))))) mc ms Q) : MW E M d pc lv (.int x :: .int i :: .ref a :: st) h mc ms Q := by
  intro p e R s m args below meth c H locs ls A cb sb Z hp hz
  refine va_bast (D := E.2.1) hp.1.1 hp.1.2.1 hp.2.1.2.1 hp.2.2.2.1.1 hp.2.2.2.1.2.1 hp.2.2.2.1.2.2.1 q0 t0 he ht hin hd (fun H1 locs1 hP hD hS => ?_)
  exact kk p e R s m args below meth c H1 locs1 ls A cb sb Z ⟨hp.1, hp.2.1, hp.2.2.1, ⟨hP, hD, hS, hp.2.2.2.1.2.2.2⟩, hp.2.2.2.2⟩ hz
theorem MW.last (hd : decode M.2.1 pc = .ok (Instr.lastore, 1)) (q0 t0 : Nat) {a n : Nat} {cA : ClassId} {f : Nat → Int64} (he : h[q0]? = some (a, .inl (cA, n, .inr (.inl f)))) (ht : E.2.2.1[t0]? = some (cA, .long)) {i : Int32} {x : Int64} (hin : vp_in i n) (kk : MW E M d (pc + 1) lv st (h.set q0 (a, .inl (cA, n, .inr (.inl (vp_updL f i.toNatClampNeg x))))) mc ms Q) : MW E M d pc lv (.long x :: .int i :: .ref a :: st) h mc ms Q := by
  intro p e R s m args below meth c H locs ls A cb sb Z hp hz
  refine va_last (D := E.2.1) hp.1.1 hp.1.2.1 hp.2.1.2.1 hp.2.2.2.1.1 hp.2.2.2.1.2.1 hp.2.2.2.1.2.2.1 q0 t0 he ht hin hd (fun H1 locs1 hP hD hS => ?_)
  exact kk p e R s m args below meth c H1 locs1 ls A cb sb Z ⟨hp.1, hp.2.1, hp.2.2.1, ⟨hP, hD, hS, hp.2.2.2.1.2.2.2⟩, hp.2.2.2.2⟩ hz
theorem MW.aast (hd : decode M.2.1 pc = .ok (Instr.aastore, 1)) (q0 t0 qk ci : Nat) {a n v : Nat} {cA : ClassId} {r : vw_C} {vs : List Value} {f : Nat → Option Nat} (he : h[q0]? = some (a, .inl (cA, n, .inr (.inr (.inr (.inr f)))))) (ht : E.2.2.1[t0]? = some (cA, .object r.1)) (hv : h[qk]? = some (v, .inr (ci, vs))) (hc : classes[ci]? = some r) {i : Int32} (hin : vp_in i n) (kk : MW E M d (pc + 1) lv st (h.set q0 (a, .inl (cA, n, .inr (.inr (.inr (.inr (va_up f i.toNatClampNeg (some v)))))))) mc ms Q) : MW E M d pc lv (.ref v :: .int i :: .ref a :: st) h mc ms Q := by
  intro p e R s m args below meth c H locs ls A cb sb Z hp hz
  refine va_astq (D := E.2.1) hp.1.1 hp.1.2.1 hp.2.1.2.1 hp.2.2.2.1.1 hp.2.2.2.1.2.1 hp.2.2.2.1.2.2.1 q0 t0 qk ci he ht hv hc hin hd (fun H1 locs1 hP hD hS => ?_)
  exact kk p e R s m args below meth c H1 locs1 ls A cb sb Z ⟨hp.1, hp.2.1, hp.2.2.1, ⟨hP, hD, hS, hp.2.2.2.1.2.2.2⟩, hp.2.2.2.2⟩ hz
theorem MW.alen (hd : decode M.2.1 pc = .ok (Instr.arraylength, 1)) (q0 t0 : Nat) {a : Nat} {cA : ClassId} {x : vp_A} {ty : FieldType} (he : h[q0]? = some (a, .inl (cA, x))) (ht : E.2.2.1[t0]? = some (cA, ty)) {v : Int32} (hv : Int32.ofNat x.1 = v) (kk : MW E M d (pc + 1) lv (.int v :: st) h mc ms Q) : MW E M d pc lv (.ref a :: st) h mc ms Q := by
  intro p e R s m args below meth c H locs ls A cb sb Z hp hz
  exact va_alen (D := E.2.1) hp.1.1 hp.1.2.1 hp.2.1.2.1 hp.2.2.2.1.1 q0 t0 he ht hv hd (kk p e R s m args below meth c H locs ls A cb sb Z hp hz)
/-- the script -/
theorem MW.sld (hd : decode M.2.1 pc = .ok (Instr.iaload, 1)) {i : Int32} (hin : vp_in i E.2.2.2.2.1) (kk : MW E M d (pc + 1) lv (.int (E.2.2.2.2.2 i.toNatClampNeg) :: st) h mc ms Q) : MW E M d pc lv (.int i :: .ref E.2.2.2.1 :: st) h mc ms Q := by
  intro p e R s m args below meth c H locs ls A cb sb Z hp hz
  exact va_sld hp.1.1 hp.1.2.1 hp.2.1.2.2.1 hp.2.1.2.2.2.1 hp.2.1.2.2.2.2.1 hp.2.2.2.1.2.2.1 hin hd (kk p e R s m args below meth c H locs ls A cb sb Z hp hz)
theorem MW.slen (hd : decode M.2.1 pc = .ok (Instr.arraylength, 1)) (kk : MW E M d (pc + 1) lv (.int (Int32.ofNat E.2.2.2.2.1) :: st) h mc ms Q) : MW E M d pc lv (.ref E.2.2.2.1 :: st) h mc ms Q := by
  intro p e R s m args below meth c H locs ls A cb sb Z hp hz
  exact va_slen hp.1.1 hp.1.2.1 hp.2.1.2.2.1 hp.2.1.2.2.2.1 hp.2.1.2.2.2.2.1 hp.2.2.2.1.2.2.1 hd (kk p e R s m args below meth c H locs ls A cb sb Z hp hz)

theorem mi_RA_inj {U : State} {a b : ClassId} {ty : FieldType} (h1 : va_RA U a ty) (h2 : va_RA U b ty) : a = b := by
  cases ty with
  | object C =>
    obtain ⟨_, _, _, _, _, e1⟩ := h1
    obtain ⟨_, _, _, _, _, e2⟩ := h2
    exact Option.some.inj (e1.symm.trans e2)
  | _ => exact Option.some.inj (Eq.trans (Eq.symm h1) h2)
/-- a new object of the class ci -/
def mi_Nw (M : mi_M) (pc ci N : Nat) (fs : List Value) : Prop := ∃ (idx : Nat) (C : String) (T : u_T) (ty : Nat → FieldType), mi_Cl ci C T N ty ∧ decode M.2.1 pc = .ok (Instr.new idx, 3) ∧ Cond.classLink M.1 idx C ∈ mi_T ∧ Cond.instantiable C N ∈ mi_T ∧ Cond.initialized C ∈ mi_T ∧ ∀ j, j < N → defaultValue (ty j) = vp_V fs j
theorem MW.new {ci N : Nat} {fs : List Value} (hf : mi_Nw M pc ci N fs) (hc1 : mc + 1 ≤ mi_CC) (hc2 : ms + N ≤ mi_CS) (kk : ∀ q : Nat, MW E M d (pc + 3) lv (.ref q :: st) (h ++ [(q, .inr (ci, fs))]) (mc + 1) (ms + N) Q) : MW E M d pc lv st h mc ms Q := by
  intro p e R s m args below meth c H locs ls A cb sb Z hp hz
  obtain ⟨idx, C, T, ty, ⟨hc, hin, hty, -⟩, hd, w1, w2, w3, hfs⟩ := hf
  obtain ⟨⟨-, -, r3, r4⟩, r5, r6, r7, r8⟩ := hp.2.2.2.2
  refine va_new (D := E.2.1) hp.1.1 hp.1.2.1 hp.2.1.1 hin ty hty hp.1.2.2.2.1 (hp.2.1.1 _ w1) (hp.2.1.1 _ w2) (hp.2.1.1 _ w3) hp.2.1.2.1 hp.2.2.2.1.1 hp.2.2.2.1.2.1 hp.2.2.2.1.2.2.1 hp.2.2.2.1.2.2.2 hc hfs (by omega) (by omega) hd (fun q H1 hP hD hS => ?_)
  have e1 : mc - cb + 1 = mc + 1 - cb := by omega
  have e2 : ms - sb + N = ms + N - sb := by omega
  rw [e1, e2]
  exact kk q p e R s m args below meth c H1 locs ls A cb sb Z ⟨hp.1, hp.2.1, hp.2.2.1, ⟨hP, hD, hS, hp.2.2.2.1.2.2.2⟩, hp.2.2.2.2.1, by omega, by omega, hc1, hc2⟩ hz
theorem MW.newa {atype : ArrayType} {ty : FieldType} (hd : decode M.2.1 pc = .ok (Instr.newarray atype, 2)) (hw : Cond.arrayClass (Op.newarray.typeOf atype) ∈ mi_T) (hty : Op.newarray.typeOf atype = ty) (t0 : Nat) {cA : ClassId} (ht : E.2.2.1[t0]? = some (cA, ty)) {n : Int32} {N : Nat} {a0 : vp_A} (ha : ∀ cA : ClassId, vp_cell cA a0 = arrV cA N (fun _ => defaultValue ty)) (hn : ¬ n < 0) (hN : n.toNatClampNeg = N) (hb : N * componentBytes ty ≤ 536870912) (hc1 : mc + 1 ≤ mi_CC) (hc2 : ms + N ≤ mi_CS)
    (kk : ∀ q : Nat, MW E M d (pc + 2) lv (.ref q :: st) (h ++ [(q, .inl (cA, a0))]) (mc + 1) (ms + N) Q) : MW E M d pc lv (.int n :: st) h mc ms Q := by
  intro p e R s m args below meth c H locs ls A cb sb Z hp hz
  obtain ⟨⟨-, -, r3, r4⟩, r5, r6, r7, r8⟩ := hp.2.2.2.2
  refine va_newa (D := E.2.1) hp.1.1 hp.1.2.1 (hp.2.1.1 _ hw) hty hp.2.1.2.1 hp.2.2.2.1.1 hp.2.2.2.1.2.1 hp.2.2.2.1.2.2.1 hp.2.2.2.1.2.2.2 ha hn hN hb (by omega) (by omega) hd (fun q cA' H1 hK hP hD hS => ?_)
  have hca : cA' = cA := mi_RA_inj (hK.2 E.2.2.1.length (cA', ty) (by simp)).2 (hp.2.1.2.1.2 t0 (cA, ty) ht).2
  subst hca
  have e1 : mc - cb + 1 = mc + 1 - cb := by omega
  have e2 : ms - sb + N = ms + N - sb := by omega
  rw [e1, e2]
  exact kk q p e R s m args below meth c H1 locs ls A cb sb Z ⟨hp.1, hp.2.1, hp.2.2.1, ⟨hP, hD, hS, hp.2.2.2.1.2.2.2⟩, hp.2.2.2.2.1, by omega, by omega, hc1, hc2⟩ hz
theorem MW.ireturn {v : Int32} {ty : FieldType} (hd : decode M.2.1 pc = .ok (Instr.ireturn, 1)) (hr : M.2.2.2.1 = some ty) (hn : narrow ty (.int v) = .int v) (hq : Q (.inl (some (.int v))) h mc ms) : MW E M d pc lv [.int v] h mc ms Q := by
  intro p e R s m args below meth c H locs ls A cb sb Z hp hz
  refine W.mono (W.zret (Qc := fun _ _ o t => o = .returned (some (.int v)) ∧ t.heap = H) (free := A) hp.1.1 hp.1.2.1 (hp.1.2.2.2.2.1.trans hr) hn (fun t ht _ => ⟨rfl, ht⟩) hp.2.2.2.1.2.2.1.2.2 hd hp.1.2.2.2.2.2.1) (fun t ht => ?_)
  obtain ⟨o, h1, h2, ⟨rfl, h3⟩, L, ⟨-, h4, h5⟩, h6⟩ := ht
  refine hz _ h mc ms t hq ⟨_, L, h1, h2, h4, h5, ⟨by rw [h3]; exact hp.2.2.2.1.2.2.1.1, fun q q1 q2 => by rw [h3]; exact hp.2.2.2.1.2.2.1.2.1 q q1 q2, h6⟩, by rw [h3]; exact hp.2.2.2.1.1, hp.2.2.2.1.2.1, rfl, hp.2.2.2.2.2⟩
theorem MW.vreturn (hd : decode M.2.1 pc = .ok (Instr.return_, 1)) (hr : M.2.2.2.1 = none) (hq : Q (.inl none) h mc ms) : MW E M d pc lv [] h mc ms Q := by
  intro p e R s m args below meth c H locs ls A cb sb Z hp hz
  refine W.mono (W.vret (Qc := fun _ _ o t => o = .returned none ∧ t.heap = H) (free := A) hp.1.1 hp.1.2.1 (hp.1.2.2.2.2.1.trans hr) (fun t ht _ => ⟨rfl, ht⟩) hp.2.2.2.1.2.2.1.2.2 hd hp.1.2.2.2.2.2.1) (fun t ht => ?_)
  obtain ⟨o, h1, h2, ⟨rfl, h3⟩, L, ⟨-, h4, h5⟩, h6⟩ := ht
  refine hz _ h mc ms t hq ⟨_, L, h1, h2, h4, h5, ⟨by rw [h3]; exact hp.2.2.2.1.2.2.1.1, fun q q1 q2 => by rw [h3]; exact hp.2.2.2.1.2.2.1.2.1 q q1 q2, h6⟩, by rw [h3]; exact hp.2.2.2.1.1, hp.2.2.2.1.2.1, rfl, hp.2.2.2.2.2⟩
theorem MW.areturn {a : Nat} {ty : FieldType} (hd : decode M.2.1 pc = .ok (Instr.areturn, 1)) (hr : M.2.2.2.1 = some ty) (hn : (∃ n, ty = .object n) ∨ ∃ t, ty = .array t) (hq : Q (.inl (some (.ref a))) h mc ms) : MW E M d pc lv [.ref a] h mc ms Q := by
  intro p e R s m args below meth c H locs ls A cb sb Z hp hz
  refine W.mono (W.aret (Qc := fun _ _ o t => o = .returned (some (.ref a)) ∧ t.heap = H) (free := A) hp.1.1 hp.1.2.1 (hp.1.2.2.2.2.1.trans hr) hn (Or.inr ⟨a, rfl⟩) (fun t ht _ => ⟨rfl, ht⟩) hp.2.2.2.1.2.2.1.2.2 hd hp.1.2.2.2.2.2.1) (fun t ht => ?_)
  obtain ⟨o, h1, h2, ⟨rfl, h3⟩, L, ⟨-, h4, h5⟩, h6⟩ := ht
  refine hz _ h mc ms t hq ⟨_, L, h1, h2, h4, h5, ⟨by rw [h3]; exact hp.2.2.2.1.2.2.1.1, fun q q1 q2 => by rw [h3]; exact hp.2.2.2.1.2.2.1.2.1 q q1 q2, h6⟩, by rw [h3]; exact hp.2.2.2.1.1, hp.2.2.2.1.2.1, rfl, hp.2.2.2.2.2⟩

/-- N is the method called y -/
def mi_Me (y : MethodName) (N : mi_M) : Prop := y.cls = N.1 ∧ y.name = N.2.2.2.2.2 ∧ plainName y.cls = true ∧ ((N.2.2.2.2.1 = [] ∧ Cond.code y N.2.1 N.2.2.1 N.2.2.2.1 ∈ mi_T) ∨ Cond.codeWith y N.2.1 N.2.2.1 N.2.2.2.1 N.2.2.2.2.1 ∈ mi_T)
/-- the locals with which a method begins -/
def mi_args : List Value → List (Option Value)
  | [] => []
  | v :: vs => if v.category = 2 then some v :: none :: mi_args vs else some v :: mi_args vs
theorem mi_args_len (vs : List Value) : (mi_args vs).length = (lg_sl vs).length := by
  induction vs with
  | nil => rfl
  | cons v vs ih =>
    by_cases hc : v.category = 2
    · simp [mi_args, lg_sl, hc] at ih ⊢
      exact ih
    · simp [mi_args, lg_sl, hc] at ih ⊢
      exact ih
theorem mi_args_in (vs : List Value) : ∀ (n i : Nat) (v : Value), (mi_args vs)[i]? = some (some v) → (n + i, v) ∈ lv_args n vs := by
  induction vs with
  | nil => intro n i v hv; simp [mi_args] at hv
  | cons w vs ih =>
    intro n i v hv
    by_cases hc : w.category = 2
    · simp only [mi_args, hc, if_true] at hv
      simp only [lv_args, hc, if_true]
      match i, hv with
      | 0, hv => simp at hv; subst hv; simp
      | 1, hv => simp at hv
      | j + 2, hv =>
        have := ih (n + 2) j v (by simpa using hv)
        rw [show n + (j + 2) = n + 2 + j by omega]
        exact List.mem_cons_of_mem _ this
    · simp only [mi_args, hc, if_false] at hv
      simp only [lv_args, hc, if_false]
      match i, hv with
      | 0, hv => simp at hv; subst hv; simp
      | j + 1, hv =>
        have := ih (n + 1) j v (by simpa using hv)
        rw [show n + (j + 1) = n + 1 + j by omega]
        exact List.mem_cons_of_mem _ this
theorem mi_entry (vs : List Value) {n : Nat} (h : (mi_args vs).length ≤ n) : mi_L ((lg_sl vs ++ List.replicate (n - (lg_sl vs).length) Slot.unset).toArray) n (mi_args vs ++ List.replicate (n - (mi_args vs).length) none) := by
  have h2 := lv_entry vs (n := n) (by rw [← mi_args_len]; exact h)
  refine ⟨h2.1, h2.2.1, fun i v hv => ?_⟩
  by_cases hi : i < (mi_args vs).length
  · rw [List.getElem?_append_left hi] at hv
    have := mi_args_in vs 0 i v hv
    rw [Nat.zero_add] at this
    exact h2.2.2 (i, v) this
  · rw [List.getElem?_append_right (by omega)] at hv
    have := List.eq_of_mem_replicate (List.mem_of_getElem? hv)
    cases this
/-- a method's contract: called with As in the world h it ends with Q -/
def MC (E : mi_E) (N : mi_M) (d : Nat) (As : List Value) (h : va_W) (mc ms : Nat) (Q : mi_O → va_W → Nat → Nat → Prop) : Prop := MW E N d 0 (mi_args As ++ List.replicate (N.2.2.1 - (mi_args As).length) none) [] h mc ms Q
theorem MC.mono {E : mi_E} {N : mi_M} {d : Nat} {As : List Value} {h : va_W} {mc ms : Nat} {Q Q' : mi_O → va_W → Nat → Nat → Prop} (k : MC E N d As h mc ms Q) (hq : ∀ o h' mc' ms', Q o h' mc' ms' → Q' o h' mc' ms') : MC E N d As h mc ms Q' := MW.mono k hq
theorem mi_code {args : Array Value} {s : State} {y : MethodName} {N : mi_M} (hy : mi_Me y N) (hts : ∀ w ∈ mi_T, w.before args s = true) {mk : MethodId} (hn : s.methodNamed? y = some mk) : ∃ (meth : Method) (c : Code), s.vm.method? mk = some meth ∧ meth.code = some c ∧ c.code = N.2.1 ∧ c.maxLocals = N.2.2.1 ∧ meth.sig.returnType = N.2.2.2.1 ∧ meth.locks = false ∧ mi_hs c N.2.2.2.2.1 ∧ meth.name = N.2.2.2.2.2 ∧ parseMethodDescriptor y.desc = some meth.sig := by
  obtain ⟨-, hnm, -, ⟨h0, hw⟩ | hw⟩ := hy
  · obtain ⟨meth, c, h1, h2, h3, h4, h5, h6, h7, h8⟩ := Cond.code_spec hn (hts _ hw)
    refine ⟨meth, c, h1, h2, h3, h4, h5, h6, ?_, (name_of_methodNamed hn h1).1.trans hnm, h8⟩
    rw [h0]
    have : c.exceptionTable = #[] := by simpa using h7
    unfold mi_hs
    rw [this]
    rfl
  · obtain ⟨m', meth, c, h0, h1, h2, h3, h4, h7, h5, h6, h8⟩ := Cond.codeWith_spec (hts _ hw)
    cases hn.symm.trans h0
    exact ⟨meth, c, h1, h2, h3, h4, h5, h6, h7, (name_of_methodNamed hn h1).1.trans hnm, h8⟩

theorem mi_call {N : mi_M} {y : MethodName} {As rest : List Value} {Q1 : mi_O → va_W → Nat → Nat → Prop} (hy : mi_Me y N) (hcall : MC E N d As h mc ms Q1) (hlen : Nat.ble (mi_args As).length N.2.2.1 = true) (hml : Nat.ble N.2.2.1 40 = true) (hrest : (rest.map fun v => v.category).sum ≤ 8)
    {p : Program} {e : Env} {R : Room} {s : State} {m : MethodId} {args : Array Value} {below : List Frame} {meth : Method} {c : Code} {H : Heap} {locs : List Loc} {ls : Array Slot} {A : Nat → Prop} {cb sb : Nat} (hp : mi_Pre E M (d + 1) lv h mc ms p R s m args meth c H locs ls A cb sb)
    {T : State} (X : Stand p E.1 e R s m args below meth c T locs (mc - cb) (ms - sb)) (hT : T.heap = H) {mk : MethodId} (hnamed : s.methodNamed? y = some mk) {ig : Instr} (hdg : decode M.2.1 pc = .ok (ig, 3)) :
    ∃ (o : mi_O) (h' : va_W) (mc' ms' : Nat) (t : State), Q1 o h' mc' ms' ∧ (∀ acts, Steps p.tables e below (doInvoke e (T.setTop (F0 m pc ls rest)) acts mk As.toArray).1 t) ∧ mi_End E (va_A h H.size) (T.calling (F0 m pc ls rest) mk As.toArray) (.java (F0 m pc ls rest) :: below) mc ms o h' mc' ms' t := by
  obtain ⟨⟨hx, hb, hmL, hown, hret, hlk, hhs, hnm⟩, ⟨hts, hK, hX, hbs, hbA, hTh⟩, ⟨hL, hLl⟩, ⟨hP, hD, hS, hA⟩, ⟨hR1, hR2, hR3, hR4⟩, hc1, hc2, hc3, hc4⟩ := id hp
  have hlen' : (mi_args As).length ≤ N.2.2.1 := Nat.le_of_ble_eq_true hlen
  have hml' : N.2.2.1 ≤ 40 := Nat.le_of_ble_eq_true hml
  have htr := lw_tr
  -- the callee's own start
  generalize hg : F0 m pc ls rest = g
  have hgm : g.method = m := by rw [← hg]
  have hgs : g.stack = rest := by rw [← hg]
  have hgl : g.locals = ls := by rw [← hg]
  have hgp : g.pc = pc := by rw [← hg]
  have hgr : g.monitorRoom = 0 := by rw [← hg]
  have hWs : s.WarmedH (T.calling g mk As.toArray).vm := X.warmed
  have hhp : (T.calling g mk As.toArray).heap = H := hT
  have hts' : ∀ w ∈ mi_T, w.before As.toArray (T.calling g mk As.toArray) = true := fun w hw => mi_word hWs (htr w hw) (hts w hw)
  have hnT : T.methodNamed? y = some mk := X.named hnamed
  have hnC : (T.calling g mk As.toArray).methodNamed? y = some mk := hnT
  obtain ⟨methk, ck, k1, k2, k3, k4, k5, k6, k7, k8, k9⟩ := mi_code hy hts' hnC
  have hpk : T.plainMethod mk := State.plainMethod.of_named (plainFor_of_name hy.2.2.1) hnT k1
  obtain ⟨Y, hin⟩ := X.into (g := g) hgm (by rw [hgl, hmL]; exact hL.1) (by rw [hgp, hb]; exact hdg) (mk := mk) (methk := methk) (ck := ck) As.toArray (R' := { frames := d, cells := R.cells - (mc - cb), slots := R.slots - (ms - sb), locals := 64 * d }) k1 k2 k6 hpk (by show d + 1 ≤ R.frames; omega) (by rw [hgr, hgs, k4]; show 2 * 0 + _ + (N.2.2.1 + 11) + 64 * d ≤ R.locals; omega) (by show mc - cb + (R.cells - (mc - cb)) ≤ R.cells; omega) (by show ms - sb + (R.slots - (ms - sb)) ≤ R.slots; omega)
  have hsub : ∀ q, va_A h H.size q → A q := by
    intro q hq
    rcases hq with ⟨k, e0, hk⟩ | hq
    · exact hD.2 k _ hk
    · exact hA q (Nat.le_trans hS.1 hq)
  have hfr : entryFrame mk As.toArray ck.maxLocals = F0 mk 0 ((lg_sl As ++ List.replicate (N.2.2.1 - (lg_sl As).length) Slot.unset).toArray) [] := by rw [k4]; exact lg_entry_eq ..
  have K := hcall p e { frames := d, cells := R.cells - (mc - cb), slots := R.slots - (ms - sb), locals := 64 * d } (T.calling g mk As.toArray) mk As.toArray (.java g :: below) methk ck H [] ((lg_sl As ++ List.replicate (N.2.2.1 - (lg_sl As).length) Slot.unset).toArray) (va_A h H.size) mc ms
    (fun t => ∃ (o : mi_O) (h' : va_W) (mc' ms' : Nat), Q1 o h' mc' ms' ∧ mi_End E (va_A h H.size) (T.calling g mk As.toArray) (.java g :: below) mc ms o h' mc' ms' t)
    ⟨⟨hx, k3, k4, by rw [← hy.1]; exact findClass_of_methodNamed hnC, k5, k6, k7, k8⟩,
     ⟨hts', hK.moved hWs.alike, ?_, ?_, ?_, ?_⟩,
     ⟨mi_entry As hlen', by simp; omega⟩,
     ⟨hP, hD.self, by rw [hhp]; exact va_S.rf, fun q hq => Or.inr (by rw [hhp] at hq; exact hq)⟩,
     ⟨by show d ≤ d; omega, by show 64 * d ≤ 64 * d; omega, by show mi_CC ≤ R.cells - (mc - cb) + mc; omega, by show mi_CS ≤ R.slots - (ms - sb) + ms; omega⟩, Nat.le_refl _, Nat.le_refl _, hc3, hc4⟩
    (fun o h' mc' ms' t hq he => ⟨o, h', mc', ms', hq, he⟩)
  · rw [Nat.sub_self, Nat.sub_self] at K
    obtain ⟨t, hst, o, h', mc', ms', hq, he⟩ := K ((T.setTop g).pushFrame (.java (entryFrame mk As.toArray ck.maxLocals))) hT Y
    refine ⟨o, h', mc', ms', t, hq, fun acts => ?_, he⟩
    rw [hin acts]
    rw [hfr] at hst ⊢
    exact Steps.weaken (mid := [.java g]) hst
  · rw [hhp]
    exact (hX.moved hWs.alike).kept (hS.2.1 _ hbs hbA)
  · rw [hhp]
    exact Nat.lt_of_lt_of_le hbs hS.1
  · intro hq
    exact hbA (hsub _ hq)
  · rw [hhp]
    exact mi_Th.call hWs hTh (fun a h1 h2 => hS.2.1 a h1 h2) hsub
/-- behind a call that returned -/
theorem mi_back {N : mi_M} {rest : List Value} {v : Option Value} {h' : va_W} {mc' ms' : Nat}
    {p : Program} {e : Env} {R : Room} {s : State} {m : MethodId} {args : Array Value} {below : List Frame} {meth : Method} {c : Code} {H : Heap} {locs : List Loc} {ls : Array Slot} {A : Nat → Prop} {cb sb : Nat} (hp : mi_Pre E M (d + 1) lv h mc ms p R s m args meth c H locs ls A cb sb)
    {T : State} (X : Stand p E.1 e R s m args below meth c T locs (mc - cb) (ms - sb)) (hT : T.heap = H) {mk : MethodId} {a : Array Value} {ig : Instr} (hdg : decode M.2.1 pc = .ok (ig, 3)) {t : State} {Z : State → Prop}
    (he : mi_End E (va_A h H.size) (T.calling (F0 m pc ls rest) mk a) (.java (F0 m pc ls rest) :: below) mc ms (.inl v) h' mc' ms' t)
    (kk : MW E M (d + 1) (pc + 3) lv (v.toList ++ rest) h' mc' ms' Q) (hz : ∀ (o : mi_O) (h' : va_W) (mc' ms' : Nat) (t : State), Q o h' mc' ms' → mi_End E A s below cb sb o h' mc' ms' t → Z t) :
    ∃ t2, Steps p.tables e below t t2 ∧ Z t2 := by
  obtain ⟨⟨hx, hb, hmL, hown, hret, hlk, hhs, hnm⟩, ⟨hts, hK, hX, hbs, hbA, hTh⟩, ⟨hL, hLl⟩, ⟨hP, hD, hS, hA⟩, ⟨hR1, hR2, hR3, hR4⟩, hc1, hc2, hc3, hc4⟩ := id hp
  obtain ⟨oc, L, e1, e2, e3, e4, e5, e6, e7, e8, c1, c2, c3, c4⟩ := he
  have e8 : oc = .returned v := e8
  subst e8
  obtain ⟨T', X', -, -, ht⟩ := X.outOf (g := F0 m pc ls rest) rfl (by rw [hb]; exact hdg) e2 e3 e4
  have hh : t.heap = T'.heap := by rw [ht]; rfl
  have hhp : (T.calling (F0 m pc ls rest) mk a).heap = H := hT
  rw [hhp, hh] at e5
  rw [hh] at e6
  have hsub : ∀ q, q < H.size → va_A h H.size q → A q := by
    intro q _ hq
    rcases hq with ⟨k, e0, hk⟩ | hq
    · exact hD.2 k _ hk
    · exact hA q (Nat.le_trans hS.1 hq)
  have hsub2 : ∀ q, va_A h H.size q → A q := by
    intro q hq
    rcases hq with ⟨k, e0, hk⟩ | hq
    · exact hD.2 k _ hk
    · exact hA q (Nat.le_trans hS.1 hq)
  have q1 : mc - cb + (mc' - mc) = mc' - cb := by omega
  have q2 : ms - sb + (ms' - ms) = ms' - sb := by omega
  rw [q1, q2] at X'
  obtain ⟨t2, b1, b2⟩ := kk p e R s m args below meth c T'.heap (locs ++ L) ls A cb sb Z ⟨hp.1, hp.2.1, hp.2.2.1, ⟨e6, e7.weaken (fun _ _ _ q => hsub2 _ q), ⟨Nat.le_trans hS.1 e5.1, fun q h1 h2 => by rw [e5.2.1 q (Nat.lt_of_lt_of_le h1 hS.1) (fun z => h2 (hsub2 q z))]; exact hS.2.1 q h1 h2, fun q hq => by
      rcases List.mem_append.mp hq with h9 | h9
      · exact hS.2.2 q h9
      · exact hsub2 _ (e5.2.2 q h9)⟩, hA⟩, ⟨hR1, hR2, hR3, hR4⟩, by omega, by omega, c3, c4⟩ hz T' rfl X'
  exact ⟨t2, by rw [ht]; exact b1, b2⟩

/-- behind a call that threw, in a method without handlers -/
theorem mi_thrown {rest : List Value} {k : Nat} {h' : va_W} {mc' ms' : Nat}
    {p : Program} {e : Env} {R : Room} {s : State} {m : MethodId} {args : Array Value} {below : List Frame} {meth : Method} {c : Code} {H : Heap} {locs : List Loc} {ls : Array Slot} {A : Nat → Prop} {cb sb : Nat} (hp : mi_Pre E M (d + 1) lv h mc ms p R s m args meth c H locs ls A cb sb) (h0 : M.2.2.2.2.1 = [])
    {T : State} (X : Stand p E.1 e R s m args below meth c T locs (mc - cb) (ms - sb)) (hT : T.heap = H) {mk : MethodId} {a : Array Value} {t : State} {Z : State → Prop}
    (he : mi_End E (va_A h H.size) (T.calling (F0 m pc ls rest) mk a) (.java (F0 m pc ls rest) :: below) mc ms (.inr k) h' mc' ms' t)
    (hq : Q (.inr k) h' mc' ms') (hz : ∀ (o : mi_O) (h' : va_W) (mc' ms' : Nat) (t : State), Q o h' mc' ms' → mi_End E A s below cb sb o h' mc' ms' t → Z t) :
    ∃ t2, Steps p.tables e below t t2 ∧ Z t2 := by
  obtain ⟨⟨hx, hb, hmL, hown, hret, hlk, hhs, hnm⟩, ⟨hts, hK, hX, hbs, hbA, hTh⟩, ⟨hL, hLl⟩, ⟨hP, hD, hS, hA⟩, ⟨hR1, hR2, hR3, hR4⟩, hc1, hc2, hc3, hc4⟩ := id hp
  obtain ⟨oc, L, e1, e2, e3, e4, e5, e6, e7, ⟨x, cell, rfl, e8, e9, e10⟩, c1, c2, c3, c4⟩ := he
  obtain ⟨T', X', -, -, ht⟩ := X.outOfThrown (g := F0 m pc ls rest) rfl e2 e3 e4
  have hh : t.heap = T'.heap := by rw [ht]; rfl
  have hv : t.vm = T'.vm := by rw [ht]; rfl
  have hhp : (T.calling (F0 m pc ls rest) mk a).heap = H := hT
  rw [hhp, hh] at e5
  rw [hh] at e6 e8
  rw [hv] at e10
  have hsub2 : ∀ q, va_A h H.size q → A q := by
    intro q hq
    rcases hq with ⟨k, e0, hk⟩ | hq
    · exact hD.2 k _ hk
    · exact hA q (Nat.le_trans hS.1 hq)
  have q1 : mc - cb + (mc' - mc) = mc' - cb := by omega
  have q2 : ms - sb + (ms' - ms) = ms' - sb := by omega
  rw [q1, q2] at X'
  have hout : ∀ y ∈ c.exceptionTable.toList, covers y pc = false := by
    have h9 : c.exceptionTable.toList.map (fun x => (x.startPc, x.endPc, x.handlerPc, x.catchType)) = [] := by rw [← h0]; exact hhs
    rw [List.map_eq_nil_iff.mp h9]
    intro y hy
    cases hy
  obtain ⟨s1, s2, s3, s4, s5⟩ := X'.leaveThrown x (g := F0 m pc ls rest) rfl rfl rfl hout hlk
  refine ⟨_, by rw [ht]; exact s1, hz (.inr k) h' mc' ms' _ hq ⟨_, locs ++ L, s2, s3, s4, s5, ⟨Nat.le_trans hS.1 e5.1, fun q h1 h2 => by
      show T'.heap[q]? = _
      rw [e5.2.1 q (Nat.lt_of_lt_of_le h1 hS.1) (fun z => h2 (hsub2 q z))]; exact hS.2.1 q h1 h2, fun q hq => by
      rcases List.mem_append.mp hq with h9 | h9
      · exact hS.2.2 q h9
      · exact hsub2 _ (e5.2.2 q h9)⟩, e6, e7.weaken (fun _ _ _ q => hsub2 _ q), ⟨x, cell, rfl, e8, e9, e10⟩, by omega, by omega, c3, c4⟩⟩
theorem mi_named {args : Array Value} {s : State} {y : MethodName} {N : mi_M} (hy : mi_Me y N) (hts : ∀ w ∈ mi_T, w.before args s = true) : ∃ mk : MethodId, s.methodNamed? y = some mk := by
  obtain ⟨-, -, -, ⟨-, hw⟩ | hw⟩ := hy
  · exact Cond.code_named (hts _ hw)
  · obtain ⟨m', _, _, h0, -⟩ := Cond.codeWith_spec (hts _ hw)
    exact ⟨m', h0⟩
/-- the instruction at pc calls the static method N, of n parameters -/
def mi_Is (M N : mi_M) (pc n : Nat) : Prop := ∃ (idx : Nat) (y : MethodName), decode M.2.1 pc = .ok (Instr.invokestatic idx, 3) ∧ (Cond.methodLink M.1 idx y ∈ mi_T ∨ ∃ host : String, Cond.methodLinkNest M.1 idx y host ∈ mi_T) ∧ Cond.static y ∈ mi_T ∧ Cond.initialized y.cls ∈ mi_T ∧ mi_Me y N ∧ (y.cls ≠ "java/lang/invoke/MethodHandle" ∧ y.cls ≠ "java/lang/invoke/VarHandle") ∧ (parseMethodDescriptor y.desc).map (fun d => d.parameters.length) = some n
/-- .. the instance method N of the class ci -/
def mi_Iv (M N : mi_M) (pc ci n : Nat) : Prop := ∃ (idx : Nat) (y : MethodName) (r : vw_C), decode M.2.1 pc = .ok (Instr.invokevirtual idx, 3) ∧ classes[ci]? = some r ∧ (Cond.methodLink M.1 idx y ∈ mi_T ∨ ∃ host : String, Cond.methodLinkNest M.1 idx y host ∈ mi_T) ∧ Cond.instanceMethod y ∈ mi_T ∧ Cond.selects r.1 y y ∈ mi_T ∧ mi_Me y N ∧ (y.cls ≠ "java/lang/invoke/MethodHandle" ∧ y.cls ≠ "java/lang/invoke/VarHandle") ∧ (parseMethodDescriptor y.desc).map (fun d => d.parameters.length) = some n
/-- .. the constructor N -/
def mi_Ii (M N : mi_M) (pc n : Nat) : Prop := ∃ (idx : Nat) (y : MethodName), decode M.2.1 pc = .ok (Instr.invokespecial idx, 3) ∧ (Cond.methodLink M.1 idx y ∈ mi_T ∨ ∃ host : String, Cond.methodLinkNest M.1 idx y host ∈ mi_T) ∧ Cond.instanceMethod y ∈ mi_T ∧ Cond.code y N.2.1 N.2.2.1 none ∈ mi_T ∧ mi_Me y N ∧ y.name = "<init>" ∧ (y.cls ≠ "java/lang/invoke/MethodHandle" ∧ y.cls ≠ "java/lang/invoke/VarHandle") ∧ (parseMethodDescriptor y.desc).map (fun d => d.parameters.length) = some n
theorem MW.invS {N : mi_M} {n : Nat} {As rest : List Value} {Q1 : mi_O → va_W → Nat → Nat → Prop} (hf : mi_Is M N pc n) (hcall : MC E N d As h mc ms Q1) (hn : As.length = n) (hst : st = As.reverse ++ rest) (hlen : Nat.ble (mi_args As).length N.2.2.1 = true) (hml : Nat.ble N.2.2.1 40 = true) (hrest : (rest.map fun v => v.category).sum ≤ 8)
    (kr : ∀ (v : Option Value) (h' : va_W) (mc' ms' : Nat), Q1 (.inl v) h' mc' ms' → MW E M (d + 1) (pc + 3) lv (v.toList ++ rest) h' mc' ms' Q)
    (kt : ∀ (k : Nat) (h' : va_W) (mc' ms' : Nat), Q1 (.inr k) h' mc' ms' → M.2.2.2.2.1 = [] ∧ Q (.inr k) h' mc' ms') : MW E M (d + 1) pc lv st h mc ms Q := by
  intro p e R s m args below meth c H locs ls A cb sb Z hp hz T hT X
  obtain ⟨idx, y, hd, hl, hstt, hini, hy, hno, hpar⟩ := hf
  have hts := hp.2.1.1
  obtain ⟨mk, hnamed⟩ := mi_named hy hts
  obtain ⟨meth', c', m1, m2, -, -, -, -, -, -, hsig⟩ := mi_code hy hts hnamed
  have hstatic : meth'.isStatic = true := Cond.static_spec hnamed m1 (hts _ hstt)
  obtain ⟨kP, hkP, -⟩ := className_of_methodNamed hnamed
  have hinitP : kP.init = .initialized := Cond.initialized_spec (findClass_of_methodNamed hnamed) hkP (hts _ hini)
  have hal : As.length = meth'.sig.parameters.length := by
    rw [hsig] at hpar
    rw [hn]
    exact (Option.some.inj hpar).symm
  have hdc : decode c.code pc = .ok (Instr.invokestatic idx, 3) := by rw [hp.1.2.1]; exact hd
  have key : ∃ vm₁, Stand p E.1 e R s m args below meth c (T.setVm vm₁) locs (mc - cb) (ms - sb) ∧ ∀ target, (∀ acts, Steps p.tables e below (doInvoke e ((T.setVm vm₁).setTop (F0 m pc ls rest)) acts mk As.toArray).1 target) → Steps p.tables e below (T.setTop (F0 m pc ls st)) target := by
    rcases hl with hl | ⟨host, hl⟩
    · exact X.invokestatic hp.1.1 hp.1.2.2.2.1 (hts _ hl) hnamed m1 hstatic hkP hinitP hno (g := F0 m pc ls st) rfl (argsL := As) (rest := rest) hal hst hdc
    · exact X.invokestaticNest hp.1.1 hp.1.2.2.2.1 (hts _ hl) hnamed m1 hstatic hkP hinitP hno (g := F0 m pc ls st) rfl (argsL := As) (rest := rest) hal hst hdc
  obtain ⟨vm₁, X₁, hstep⟩ := key
  obtain ⟨o, h', mc', ms', t, hq, hs, he⟩ := mi_call hy hcall hlen hml hrest hp X₁ hT hnamed hd
  cases o with
  | inl v =>
    obtain ⟨t2, a1, b1⟩ := mi_back (N := N) hp X₁ hT hd he (kr v h' mc' ms' hq) hz
    exact ⟨t2, hstep _ (fun acts => (hs acts).trans a1), b1⟩
  | inr k =>
    obtain ⟨h0, hq2⟩ := kt k h' mc' ms' hq
    obtain ⟨t2, a1, b1⟩ := mi_thrown hp h0 X₁ hT he hq2 hz
    exact ⟨t2, hstep _ (fun acts => (hs acts).trans a1), b1⟩
theorem MW.invV {N : mi_M} {n ci b : Nat} {As rest : List Value} {Q1 : mi_O → va_W → Nat → Nat → Prop} (hf : mi_Iv M N pc ci n) (q0 : Nat) {fs : List Value} (he0 : h[q0]? = some (b, .inr (ci, fs))) (hcall : MC E N d (.ref b :: As) h mc ms Q1) (hn : As.length = n) (hst : st = As.reverse ++ .ref b :: rest) (hlen : Nat.ble (mi_args (.ref b :: As)).length N.2.2.1 = true) (hml : Nat.ble N.2.2.1 40 = true) (hrest : (rest.map fun v => v.category).sum ≤ 8)
    (kr : ∀ (v : Option Value) (h' : va_W) (mc' ms' : Nat), Q1 (.inl v) h' mc' ms' → MW E M (d + 1) (pc + 3) lv (v.toList ++ rest) h' mc' ms' Q)
    (kt : ∀ (k : Nat) (h' : va_W) (mc' ms' : Nat), Q1 (.inr k) h' mc' ms' → M.2.2.2.2.1 = [] ∧ Q (.inr k) h' mc' ms') : MW E M (d + 1) pc lv st h mc ms Q := by
  intro p e R s m args below meth c H locs ls A cb sb Z hp hz T hT X
  obtain ⟨idx, y, r, hd, hcl, hl, hins, hsel, hy, hno, hpar⟩ := hf
  have hts := hp.2.1.1
  obtain ⟨cellB, hcell, hobj, hcls⟩ := va_recv hp.2.1.2.1 hp.2.2.2.1.1 hcl he0
  obtain ⟨mk, methM, hnamed, hmethM, hstM, habM⟩ := Cond.instanceMethod_spec (hts _ hins)
  obtain ⟨meth', c', m1, m2, -, -, -, -, -, -, hsig⟩ := mi_code hy hts hnamed
  cases hmethM.symm.trans m1
  obtain ⟨c2, r2, m2', q1, q2, q3, q4, kP, hkP, hkPi⟩ := Cond.selects_spec (hts _ hsel)
  cases hcls.symm.trans q1
  cases (State.methodFound?_of_named hnamed hno).symm.trans q2
  cases hnamed.symm.trans q3
  have hselP : selectMethod e.platform s.vm cellB.cls mk = .method mk := by rw [Launch.admits_selectMethod X.admits]; exact q4
  have hal : As.length = methM.sig.parameters.length := by
    rw [hsig] at hpar
    rw [hn]
    exact (Option.some.inj hpar).symm
  have hdc : decode c.code pc = .ok (Instr.invokevirtual idx, 3) := by rw [hp.1.2.1]; exact hd
  have key : ∃ vm₁, Stand p E.1 e R s m args below meth c (T.setVm vm₁) locs (mc - cb) (ms - sb) ∧ ∀ target, (∀ acts, Steps p.tables e below (doInvoke e ((T.setVm vm₁).setTop (F0 m pc ls rest)) acts mk (Value.ref b :: As).toArray).1 target) → Steps p.tables e below (T.setTop (F0 m pc ls st)) target := by
    rcases hl with hl | ⟨host, hl⟩
    · exact X.invokevirtual hp.1.1 hp.1.2.2.2.1 (hts _ hl) hnamed hmethM hstM hkP hkPi hno (a := b) (cell := cellB) (by rw [hT]; exact hcell) (fun z h => by rw [h] at hobj; cases hobj) hselP hmethM habM hkP hkPi (g := F0 m pc ls st) rfl (argsL := As) (rest := rest) hal hst hdc
    · exact X.invokevirtualNest hp.1.1 hp.1.2.2.2.1 (hts _ hl) hnamed hmethM hstM hkP hkPi hno (a := b) (cell := cellB) (by rw [hT]; exact hcell) (fun z h => by rw [h] at hobj; cases hobj) hselP hmethM habM hkP hkPi (g := F0 m pc ls st) rfl (argsL := As) (rest := rest) hal hst hdc
  obtain ⟨vm₁, X₁, hstep⟩ := key
  obtain ⟨o, h', mc', ms', t, hq, hs, he⟩ := mi_call hy hcall hlen hml hrest hp X₁ hT hnamed hd
  cases o with
  | inl v =>
    obtain ⟨t2, a1, b1⟩ := mi_back (N := N) hp X₁ hT hd he (kr v h' mc' ms' hq) hz
    exact ⟨t2, hstep _ (fun acts => (hs acts).trans a1), b1⟩
  | inr k =>
    obtain ⟨h0, hq2⟩ := kt k h' mc' ms' hq
    obtain ⟨t2, a1, b1⟩ := mi_thrown hp h0 X₁ hT he hq2 hz
    exact ⟨t2, hstep _ (fun acts => (hs acts).trans a1), b1⟩
theorem MW.invI {N : mi_M} {n b : Nat} {As rest : List Value} {Q1 : mi_O → va_W → Nat → Nat → Prop} (hf : mi_Ii M N pc n) (hcall : MC E N d (.ref b :: As) h mc ms Q1) (hn : As.length = n) (hst : st = As.reverse ++ .ref b :: rest) (hlen : Nat.ble (mi_args (.ref b :: As)).length N.2.2.1 = true) (hml : Nat.ble N.2.2.1 40 = true) (hrest : (rest.map fun v => v.category).sum ≤ 8)
    (kr : ∀ (v : Option Value) (h' : va_W) (mc' ms' : Nat), Q1 (.inl v) h' mc' ms' → MW E M (d + 1) (pc + 3) lv (v.toList ++ rest) h' mc' ms' Q)
    (kt : ∀ (k : Nat) (h' : va_W) (mc' ms' : Nat), Q1 (.inr k) h' mc' ms' → M.2.2.2.2.1 = [] ∧ Q (.inr k) h' mc' ms') : MW E M (d + 1) pc lv st h mc ms Q := by
  intro p e R s m args below meth c H locs ls A cb sb Z hp hz T hT X
  obtain ⟨idx, y, hd, hl, hins, hcw, hy, hyn, hno, hpar⟩ := hf
  have hts := hp.2.1.1
  have hal : ∀ sig, parseMethodDescriptor y.desc = some sig → As.length = sig.parameters.length := by
    intro sig hs
    rw [hs] at hpar
    rw [hn]
    exact (Option.some.inj hpar).symm
  have hdc : decode c.code pc = .ok (Instr.invokespecial idx, 3) := by rw [hp.1.2.1]; exact hd
  have hpl : e.platform.magicAccessors = ({} : Platform).magicAccessors := by rw [X.admits.platform]
  have key : ∃ (mk : MethodId) (vm₁ : Vm), s.methodNamed? y = some mk ∧ s.WarmedH vm₁ ∧ ∀ target, (∀ acts, Steps p.tables e below (doInvoke e ((T.setVm vm₁).setTop (F0 m pc ls rest)) acts mk (Value.ref b :: As).toArray).1 target) → Steps p.tables e below (T.setTop (F0 m pc ls st)) target := by
    rcases hl with hl | ⟨host, hl⟩
    · obtain ⟨mk, _, _, _, vm₁, g1, -, -, -, -, -, -, -, g2, g3⟩ := Steps.initColdArgs (e := e) X.here hp.1.1 X.warmed hpl hp.1.2.2.2.1 hyn hno (hts _ hl) (hts _ hins) (hts _ hcw) (f := F0 m pc ls st) rfl hal hst hdc
      exact ⟨mk, vm₁, g1, g2, g3⟩
    · obtain ⟨mk, _, _, _, vm₁, g1, -, -, -, -, -, -, -, g2, g3⟩ := Steps.initColdArgsNest (e := e) X.here hp.1.1 X.warmed hpl hp.1.2.2.2.1 hyn hno (hts _ hl) (hts _ hins) (hts _ hcw) (f := F0 m pc ls st) rfl hal hst hdc
      exact ⟨mk, vm₁, g1, g2, g3⟩
  obtain ⟨mk, vm₁, hnamed, hW₁, hstep⟩ := key
  have X₁ := X.noted hW₁
  obtain ⟨o, h', mc', ms', t, hq, hs, he⟩ := mi_call hy hcall hlen hml hrest hp X₁ hT hnamed hd
  cases o with
  | inl v =>
    obtain ⟨t2, a1, b1⟩ := mi_back (N := N) hp X₁ hT hd he (kr v h' mc' ms' hq) hz
    exact ⟨t2, hstep _ (fun acts => (hs acts).trans a1), b1⟩
  | inr k =>
    obtain ⟨h0, hq2⟩ := kt k h' mc' ms' hq
    obtain ⟨t2, a1, b1⟩ := mi_thrown hp h0 X₁ hT he hq2 hz
    exact ⟨t2, hstep _ (fun acts => (hs acts).trans a1), b1⟩

theorem MW.objInit {idx a : Nat} (hd : decode M.2.1 pc = .ok (Instr.invokespecial idx, 3)) (w1 : Cond.methodLink M.1 idx Lib.objectInit ∈ mi_T) (w2 : Cond.instanceMethod Lib.objectInit ∈ mi_T) (w3 : Cond.code Lib.objectInit ⟨#[0xb1]⟩ 1 none ∈ mi_T) (hrest : (st.map fun v => v.category).sum ≤ 8) (k : MW E M (d + 1) (pc + 3) lv st h mc ms Q) : MW E M (d + 1) pc lv (.ref a :: st) h mc ms Q := by
  intro p e R s m args below meth c H locs ls A cb sb Z hp hz
  obtain ⟨⟨r1, r2, -, -⟩, -⟩ := hp.2.2.2.2
  refine W.objInit hp.1.1 hp.1.2.1 hp.1.2.2.2.1 (hp.2.1.1 _ w1) (hp.2.1.1 _ w2) (hp.2.1.1 _ w3) rfl (by show ls.size = c.maxLocals; rw [hp.1.2.2.1]; exact hp.2.2.1.1.1) rfl hd (by omega) (by show 2 * 0 + _ + 12 ≤ R.locals; omega) ?_
  exact k p e R s m args below meth c H locs ls A cb sb Z hp hz
theorem MW.mmax {idx : Nat} {x y : Int32} (hd : decode M.2.1 pc = .ok (Instr.invokestatic idx, 3)) (w1 : Cond.methodLink M.1 idx Lib.Math.max.name ∈ mi_T) (w2 : Cond.static Lib.Math.max.name ∈ mi_T) (w3 : Cond.initialized "java/lang/Math" ∈ mi_T) (w4 : Cond.code Lib.Math.max.name Lib.Math.max.code 2 (some .int) ∈ mi_T) (hrest : (st.map fun v => v.category).sum ≤ 8) (k : MW E M (d + 1) (pc + 3) lv (.int (if x < y then y else x) :: st) h mc ms Q) : MW E M (d + 1) pc lv (.int y :: .int x :: st) h mc ms Q := by
  intro p e R s m args below meth c H locs ls A cb sb Z hp hz
  obtain ⟨⟨r1, r2, r3, r4⟩, r5, r6, r7, r8⟩ := hp.2.2.2.2
  exact va_mmax hp.1.1 hp.1.2.1 (by rw [hp.1.2.2.1]; exact hp.2.2.1.1.1.symm) hp.1.2.2.2.1 (hp.2.1.1 _ w1) (hp.2.1.1 _ w2) (hp.2.1.1 _ w3) (hp.2.1.1 _ w4) (by omega) (by omega) (by omega) (by omega) hd (k p e R s m args below meth c H locs ls A cb sb Z hp hz)
theorem MW.mmin {idx : Nat} {x y : Int32} (hd : decode M.2.1 pc = .ok (Instr.invokestatic idx, 3)) (w1 : Cond.methodLink M.1 idx Lib.Math.min.name ∈ mi_T) (w2 : Cond.static Lib.Math.min.name ∈ mi_T) (w3 : Cond.initialized "java/lang/Math" ∈ mi_T) (w4 : Cond.code Lib.Math.min.name Lib.Math.min.code 2 (some .int) ∈ mi_T) (hrest : (st.map fun v => v.category).sum ≤ 8) (k : MW E M (d + 1) (pc + 3) lv (.int (if y < x then y else x) :: st) h mc ms Q) : MW E M (d + 1) pc lv (.int y :: .int x :: st) h mc ms Q := by
  intro p e R s m args below meth c H locs ls A cb sb Z hp hz
  obtain ⟨⟨r1, r2, r3, r4⟩, r5, r6, r7, r8⟩ := hp.2.2.2.2
  exact va_mmin hp.1.1 hp.1.2.1 (by rw [hp.1.2.2.1]; exact hp.2.2.1.1.1.symm) hp.1.2.2.2.1 (hp.2.1.1 _ w1) (hp.2.1.1 _ w2) (hp.2.1.1 _ w3) (hp.2.1.1 _ w4) (by omega) (by omega) (by omega) (by omega) hd (k p e R s m args below meth c H locs ls A cb sb Z hp hz)
theorem MW.mabs {idx : Nat} {x : Int32} (hd : decode M.2.1 pc = .ok (Instr.invokestatic idx, 3)) (w1 : Cond.methodLink M.1 idx Lib.Math.abs.name ∈ mi_T) (w2 : Cond.static Lib.Math.abs.name ∈ mi_T) (w3 : Cond.initialized "java/lang/Math" ∈ mi_T) (w4 : Cond.code Lib.Math.abs.name Lib.Math.abs.code 1 (some .int) ∈ mi_T) (hrest : (st.map fun v => v.category).sum ≤ 8) (k : MW E M (d + 1) (pc + 3) lv (.int (if 0 ≤ x then x else 0 - x) :: st) h mc ms Q) : MW E M (d + 1) pc lv (.int x :: st) h mc ms Q := by
  intro p e R s m args below meth c H locs ls A cb sb Z hp hz
  obtain ⟨⟨r1, r2, r3, r4⟩, r5, r6, r7, r8⟩ := hp.2.2.2.2
  exact va_mabs hp.1.1 hp.1.2.1 (by rw [hp.1.2.2.1]; exact hp.2.2.1.1.1.symm) hp.1.2.2.2.1 (hp.2.1.1 _ w1) (hp.2.1.1 _ w2) (hp.2.1.1 _ w3) (hp.2.1.1 _ w4) (by omega) (by omega) (by omega) (by omega) hd (k p e R s m args below meth c H locs ls A cb sb Z hp hz)
theorem MW.newq {C : String} {idx : Nat} (hd : decode M.2.1 pc = .ok (Instr.anewarray idx, 3)) (hw : Cond.classLink M.1 idx C ∈ mi_T) (ho : ∀ (args : Array Value) (s : State), (∀ w ∈ mi_T, w.before args s = true) → va_AO C s) (t0 : Nat) {cA : ClassId} (ht : E.2.2.1[t0]? = some (cA, .object C)) {n : Int32} {N : Nat} (hn : ¬ n < 0) (hN : n.toNatClampNeg = N) (hb : N * 4 ≤ 536870912) (hc1 : mc + 1 ≤ mi_CC) (hc2 : ms + N ≤ mi_CS)
    (kk : ∀ q : Nat, MW E M d (pc + 3) lv (.ref q :: st) (h ++ [(q, .inl (cA, N, .inr (.inr (.inr (.inr (fun _ => none))))))]) (mc + 1) (ms + N) Q) : MW E M d pc lv (.int n :: st) h mc ms Q := by
  intro p e R s m args below meth c H locs ls A cb sb Z hp hz
  obtain ⟨⟨-, -, r3, r4⟩, r5, r6, r7, r8⟩ := hp.2.2.2.2
  refine va_newq (D := E.2.1) hp.1.1 hp.1.2.1 hp.1.2.2.2.1 (hp.2.1.1 _ hw) (ho args s hp.2.1.1) hp.2.1.2.1 hp.2.2.2.1.1 hp.2.2.2.1.2.1 hp.2.2.2.1.2.2.1 hp.2.2.2.1.2.2.2 hn hN hb (by omega) (by omega) hd (fun q cA' H1 hK hP hD hS => ?_)
  have hca : cA' = cA := mi_RA_inj (hK.2 E.2.2.1.length (cA', .object C) (by simp)).2 (hp.2.1.2.1.2 t0 (cA, .object C) ht).2
  subst hca
  have e1 : mc - cb + 1 = mc + 1 - cb := by omega
  have e2 : ms - sb + N = ms + N - sb := by omega
  rw [e1, e2]
  exact kk q p e R s m args below meth c H1 locs ls A cb sb Z ⟨hp.1, hp.2.1, hp.2.2.1, ⟨hP, hD, hS, hp.2.2.2.1.2.2.2⟩, hp.2.2.2.2.1, by omega, by omega, hc1, hc2⟩ hz
end MWrows
