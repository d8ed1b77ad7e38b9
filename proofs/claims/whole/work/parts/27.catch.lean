/-! A throw that a handler of the walked method takes, its class cold or warm in the pool. -/
section Catch
/-- one row that covers the place: she is asked, and her class is noted -/
theorem mi_row {e : Env} {S : State} {f : JFrame} {a : Addr} {cell : Cell} {c : ClassId} {x : ExceptionTableEntry} {tl : List ExceptionTableEntry} (hc : S.heap[a]? = some cell) (hv : cell.vm = .none) (hx : covers x f.pc = true) (h0 : x.catchType ≠ 0) (hl : S.vm.ClassLinks e.platform f.method.cls x.catchType c) (h1 : ∃ k, S.vm.classes[cell.cls]? = some k) (h2 : ∃ k, S.vm.classes[c]? = some k) (Q : Handler → Pre) (F : CtlPost) (dd : Bool) (acts : List Action) :
    wp (findHandler.go f a (x :: tl)) Q F e dd acts S ↔ if S.vm.assignable cell.cls c = true then Q (.found x.handlerPc) dd acts (S.setVm (S.vm.noted f.method.cls x.catchType (.cls c))) else wp (findHandler.go f a tl) Q F e dd acts (S.setVm (S.vm.noted f.method.cls x.catchType (.cls c))) := by
  have hal : S.vm.Alike (S.vm.noted f.method.cls x.catchType (.cls c)) := (Vm.Alike.refl S.vm).noted _ _ _
  obtain ⟨r1, r2⟩ := (resolveClass_links e.toSetting hl).op (op := VmOp.resolveClass f.method.cls x.catchType) rfl
  obtain ⟨y1, g1, -⟩ := hal.2.2 _ _ h1.choose_spec
  obtain ⟨y2, g2, -⟩ := hal.2.2 _ _ h2.choose_spec
  have hs : ∀ z, cell.vm ≠ .statics z := fun z hz => by rw [hv] at hz; cases hz
  simp only [covers] at hx
  rw [← hal.assignable]
  cases hb : (S.vm.noted f.method.cls x.catchType (.cls c)).assignable cell.cls c
  · simp [findHandler.go, hx, h0, r1, r2, hc, hs, g1, g2, hb, VmOp.dirties, VmOp.acts]
  · simp [findHandler.go, hx, h0, r1, r2, hc, hs, g1, g2, hb, VmOp.dirties, VmOp.acts]
/-- what is known of a row: she doesn't cover the place, or she names a class that takes the object (b), or doesn't -/
def mi_Rw (e : Env) (s : State) (d : ClassId) (pc : Nat) (k : ClassId) (b : Bool) (x : ExceptionTableEntry) : Prop := covers x pc = true ∧ x.catchType ≠ 0 ∧ ∃ c, s.vm.ClassLinks e.platform d x.catchType c ∧ s.vm.assignable k c = b
theorem mi_rows {e : Env} {s : State} {f : JFrame} {a : Addr} {cell : Cell} (hv : cell.vm = .none) (hk : ∃ k, s.vm.classes[cell.cls]? = some k) (x : ExceptionTableEntry) (tl : List ExceptionTableEntry) (hx : mi_Rw e s f.method.cls f.pc cell.cls true x) :
    ∀ (pre : List ExceptionTableEntry), (∀ y ∈ pre, mi_Rw e s f.method.cls f.pc cell.cls false y) → ∀ S : State, s.WarmedH S.vm → S.heap[a]? = some cell →
      ∃ vm', s.WarmedH vm' ∧ ∀ (Q : Handler → Pre) (F : CtlPost) (dd : Bool) (acts : List Action), wp (findHandler.go f a (pre ++ x :: tl)) Q F e dd acts S ↔ Q (.found x.handlerPc) dd acts (S.setVm vm')
  | [], _, S, hW, hc => by
    obtain ⟨z1, z2, c, z3, z4⟩ := hx
    obtain ⟨dk, _, _, kt, hd, _, _, _, _, hkt, _, hopen⟩ := z3.here
    obtain ⟨v1, g1, -⟩ := hW.alike.2.2 _ _ hk.choose_spec
    obtain ⟨v2, g2, -⟩ := hW.alike.2.2 _ _ hkt
    refine ⟨_, hW.noted hd hopen (State.rightAt_cls z3), fun Q F dd acts => ?_⟩
    rw [List.nil_append, mi_row hc hv z1 z2 (hW.classLinks z3) ⟨v1, g1⟩ ⟨v2, g2⟩, if_pos (by rw [hW.alike.assignable]; exact z4)]
  | y :: pre, hp, S, hW, hc => by
    obtain ⟨z1, z2, c, z3, z4⟩ := hp y List.mem_cons_self
    obtain ⟨dk, _, _, kt, hd, _, _, _, _, hkt, _, hopen⟩ := z3.here
    obtain ⟨v1, g1, -⟩ := hW.alike.2.2 _ _ hk.choose_spec
    obtain ⟨v2, g2, -⟩ := hW.alike.2.2 _ _ hkt
    obtain ⟨vm', h1, h2⟩ := mi_rows hv hk x tl hx pre (fun z hz => hp z (List.mem_cons_of_mem _ hz)) (S.setVm (S.vm.noted f.method.cls y.catchType (.cls c))) (hW.noted hd hopen (State.rightAt_cls z3)) hc
    refine ⟨vm', h1, fun Q F dd acts => ?_⟩
    rw [List.cons_append, mi_row hc hv z1 z2 (hW.classLinks z3) ⟨v1, g1⟩ ⟨v2, g2⟩, if_neg (by rw [hW.alike.assignable, z4]; decide)]
    exact h2 Q F dd acts
/-- from the note over the frame to the handler -/
theorem mi_toH {p : Program} {l : Launch} {e : Env} {R : Room} {s : State} {m : MethodId} {args : Array Value} {below : List Frame} {meth : Method} {c : Code} {T : State} {locs : List Loc} {cells slots : Nat} (X : Stand p l e R s m args below meth c T locs cells slots) {a pc : Nat} {ls : Array Slot} {st : List Value} {cell : Cell} (hc : T.heap[a]? = some cell) (hv : cell.vm = .none) (hk : ∃ k, s.vm.classes[cell.cls]? = some k)
    (pre : List ExceptionTableEntry) (x : ExceptionTableEntry) (tl : List ExceptionTableEntry) (hs : c.exceptionTable.toList = pre ++ x :: tl) (hp : ∀ y ∈ pre, mi_Rw e s m.cls pc cell.cls false y) (hx : mi_Rw e s m.cls pc cell.cls true x) :
    ∃ vm', Stand p l e R s m args below meth c (T.setVm vm') locs cells slots ∧ ∀ t, Steps p.tables e below ((T.setVm vm').setTop (F0 m x.handlerPc ls [.ref a])) t → Steps p.tables e below ((T.setTop (F0 m pc ls st)).pushFrame (.throwing a)) t := by
  have hvm : ((T.setTop (F0 m pc ls st)).pushFrame (.throwing a)).vm = T.vm := throwing_vm ..
  have hhp : ((T.setTop (F0 m pc ls st)).pushFrame (.throwing a)).heap = T.heap := throwing_heap ..
  obtain ⟨vm', h1, h2⟩ := mi_rows (e := e) (s := s) (f := F0 m pc ls st) (a := a) hv hk x tl hx pre hp ((T.setTop (F0 m pc ls st)).pushFrame (.throwing a)) (by rw [hvm]; exact X.warmed) (by rw [hhp]; exact hc)
  refine ⟨vm', X.noted h1, fun t ht => ?_⟩
  have hat : At T (F0 m pc ls st).method c below := X.here
  obtain ⟨n1, n2⟩ := hat.throwing a
  refine Steps.head n1 n2 ?_
  obtain ⟨g0, hg⟩ := Option.isSome_iff_exists.mp hat.top
  obtain ⟨r, hr⟩ := State.topJava?_eq_some.mp hg
  have hm : ((T.setTop (F0 m pc ls st)).pushFrame (.throwing a)).vm.method? (F0 m pc ls st).method = some meth := by rw [hvm]; exact X.method'
  have hstep : (stepThrowing e ((T.setTop (F0 m pc ls st)).pushFrame (.throwing a)) a (.java (F0 m pc ls st) :: r)).1 = (((T.setTop (F0 m pc ls st)).pushFrame (.throwing a)).setVm vm').setFrames (.java (F0 m x.handlerPc ls [.ref a]) :: r) := by
    simp only [stepThrowing, searchFrame, vmDo]
    generalize hres : Sem.go _ e false [] _ = res
    obtain ⟨as, rfl, -⟩ := Sem.eq_ok_of hres (a := Handler.found x.handlerPc) (s' := ((T.setTop (F0 m pc ls st)).pushFrame (.throwing a)).setVm vm') (acts' := []) (by simp [W.findHandler_eq hm X.code, hs, h2])
    rfl
  rw [stepThread_throwing (frames_entered hat.top _), hr, List.tail_cons, hstep]
  have hr2 : (T.setVm vm').frames = .java g0 :: r := hr
  rw [State.setTop_of_frames _ hr2] at ht
  have e1 : (((T.setTop (F0 m pc ls st)).pushFrame (.throwing a)).setVm vm').setFrames (.java (F0 m x.handlerPc ls [.ref a]) :: r) = (T.setVm vm').setFrames (.java (F0 m x.handlerPc ls [.ref a]) :: r) := by
    rw [State.pushFrame, State.setTop_of_frames _ hr, State.setFrames_setFrames]
    show ((T.setVm vm').setFrames _).setFrames _ = _
    rw [State.setFrames_setFrames]
  rw [e1]
  exact ht
end Catch
