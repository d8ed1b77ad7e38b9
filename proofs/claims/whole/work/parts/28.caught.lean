/-- the handler hpc of the method takes the k-th exception, thrown at pc -/
def mi_Ca (M : mi_M) (pc k hpc : Nat) : Prop := ∃ (pre suf : List (Nat × Nat × Nat × Nat)) (x : Nat × Nat × Nat × Nat) (nm : String), M.2.2.2.2.1 = pre ++ x :: suf ∧ (∀ z ∈ pre, (z.1 ≤ pc ∧ pc < z.2.1) ∧ z.2.2.2 ≠ 0 ∧ ∃ nz : String, Cond.classLink M.1 z.2.2.2 nz ∈ mi_T ∧ (mi_exn k, nz) ∈ mi_ncs) ∧ (x.1 ≤ pc ∧ pc < x.2.1) ∧ x.2.2.2 ≠ 0 ∧ Cond.classLink M.1 x.2.2.2 nm ∈ mi_T ∧ Cond.castable (mi_exn k) nm ∈ mi_T ∧ x.2.2.1 = hpc
section Caught
variable {E : mi_E} {M : mi_M} {d pc : Nat} {lv : List (Option Value)} {st : List Value} {h : va_W} {mc ms : Nat} {Q : mi_O → va_W → Nat → Nat → Prop}
/-- behind a call that threw, taken by a handler -/
theorem mi_caught {rest : List Value} {k hpc : Nat} {h' : va_W} {mc' ms' : Nat}
    {p : Program} {e : Env} {R : Room} {s : State} {m : MethodId} {args : Array Value} {below : List Frame} {meth : Method} {c : Code} {H : Heap} {locs : List Loc} {ls : Array Slot} {A : Nat → Prop} {cb sb : Nat} (hp : mi_Pre E M (d + 1) lv h mc ms p R s m args meth c H locs ls A cb sb) (hca : mi_Ca M pc k hpc)
    {T : State} (X : Stand p E.1 e R s m args below meth c T locs (mc - cb) (ms - sb)) (hT : T.heap = H) {mk : MethodId} {a : Array Value} {t : State} {Z : State → Prop}
    (he : mi_End E (va_A h H.size) (T.calling (F0 m pc ls rest) mk a) (.java (F0 m pc ls rest) :: below) mc ms (.inr k) h' mc' ms' t)
    (hq : ∀ r : Nat, MW E M (d + 1) hpc lv [.ref r] h' mc' ms' Q) (hz : ∀ (o : mi_O) (h' : va_W) (mc' ms' : Nat) (t : State), Q o h' mc' ms' → mi_End E A s below cb sb o h' mc' ms' t → Z t) :
    ∃ t2, Steps p.tables e below t t2 ∧ Z t2 := by
  obtain ⟨⟨hx, hb, hmL, hown, hret, hlk, hhs, hnm⟩, ⟨hts, hK, hX, hbs, hbA, hTh⟩, ⟨hL, hLl⟩, ⟨hP, hD, hS, hA⟩, ⟨hR1, hR2, hR3, hR4⟩, hc1, hc2, hc3, hc4⟩ := id hp
  obtain ⟨oc, L, e1, e2, e3, e4, e5, e6, e7, ⟨x, cell, rfl, e8, e9, e10⟩, c1, c2, c3, c4⟩ := he
  obtain ⟨T', X', -, -, ht⟩ := X.outOfThrown (g := F0 m pc ls rest) rfl e2 e3 e4
  have hh : t.heap = T'.heap := by rw [ht]; rfl
  have hv : t.vm = T'.vm := by rw [ht]; rfl
  have hhp : (T.calling (F0 m pc ls rest) mk a).heap = H := hT
  rw [hhp, hh] at e5
  rw [hh] at e6 e8
  rw [hv] at e10
  have hsub2 : ∀ q, va_A h H.size q → A q := by
    intro q hq
    rcases hq with ⟨k, e0, hk⟩ | hq
    · exact hD.2 k _ hk
    · exact hA q (Nat.le_trans hS.1 hq)
  have q1 : mc - cb + (mc' - mc) = mc' - cb := by omega
  have q2 : ms - sb + (ms' - ms) = ms' - sb := by omega
  rw [q1, q2] at X'
  -- the row that takes it
  obtain ⟨pre, suf, y, nm, hsp, hpass, ⟨hy1, hy2⟩, hy0, hlink, hcast, rfl⟩ := hca
  have hmap : c.exceptionTable.toList.map (fun x => (x.startPc, x.endPc, x.handlerPc, x.catchType)) = pre ++ y :: suf := by rw [← hsp]; exact hhs
  obtain ⟨P1, P2, hP0, hP1, hP2⟩ := List.map_eq_append_iff.mp hmap
  obtain ⟨y9, S9, hS0, rfl, hS1⟩ := List.map_eq_cons_iff.mp hP2
  have hpl : e.platform.magicAccessors = ({} : Platform).magicAccessors := by rw [X'.admits.platform]
  have hfx : s.vm.findClass (mi_exn k) = some cell.cls := by rw [← e10]; exact (X'.warmed.alike.findClass _ _).symm
  obtain ⟨n3, n4, hn3, hn4, hasg⟩ := Cond.castable_spec (hts _ hcast)
  cases Option.some.inj (hn3.symm.trans hfx)
  obtain ⟨n5, hn5, hcl5⟩ := Cond.classLink_spec hown (hts _ hlink) e.platform hpl
  cases Option.some.inj (hn4.symm.trans hn5)
  obtain ⟨vm', X'', hstep⟩ := mi_toH X' (a := x) (pc := pc) (ls := ls) (st := rest) e8 e9 (by obtain ⟨k9, h9, -⟩ := Vm.findClass_spec hfx; exact ⟨k9, h9⟩) P1 y9 S9 (by rw [hP0, hS0])
    (fun z hz => by
      have hzm : (z.startPc, z.endPc, z.handlerPc, z.catchType) ∈ pre := by rw [← hP1]; exact List.mem_map.mpr ⟨z, hz, rfl⟩
      obtain ⟨⟨v1, v2⟩, v3, nz, v4, v5⟩ := hpass _ hzm
      obtain ⟨n6, hn6, hcl6⟩ := Cond.classLink_spec hown (hts _ v4) e.platform hpl
      obtain ⟨a8, b8, w1, w2, w3⟩ := hTh.2.2.2.2 _ v5
      cases Option.some.inj (w1.symm.trans hfx)
      cases Option.some.inj (w2.symm.trans hn6)
      exact ⟨by simp [covers, v1, v2], v3, _, hcl6, w3⟩) ⟨by simp [covers, hy1, hy2], hy0, _, hcl5, hasg⟩
  obtain ⟨t2, b1, b2⟩ := hq x p e R s m args below meth c T'.heap (locs ++ L) ls A cb sb Z ⟨hp.1, hp.2.1, hp.2.2.1, ⟨e6, e7.weaken (fun _ _ _ q => hsub2 _ q), ⟨Nat.le_trans hS.1 e5.1, fun q h1 h2 => by rw [e5.2.1 q (Nat.lt_of_lt_of_le h1 hS.1) (fun z => h2 (hsub2 q z))]; exact hS.2.1 q h1 h2, fun q hq => by
      rcases List.mem_append.mp hq with h9 | h9
      · exact hS.2.2 q h9
      · exact hsub2 _ (e5.2.2 q h9)⟩, hA⟩, ⟨hR1, hR2, hR3, hR4⟩, by omega, by omega, c3, c4⟩ hz (T'.setVm vm') rfl X''
  exact ⟨t2, by rw [ht]; exact hstep _ b1, b2⟩
theorem MW.invVc {N : mi_M} {n ci b : Nat} {As rest : List Value} {Q1 : mi_O → va_W → Nat → Nat → Prop} (hf : mi_Iv M N pc ci n) (q0 : Nat) {fs : List Value} (he0 : h[q0]? = some (b, .inr (ci, fs))) (hcall : MC E N d (.ref b :: As) h mc ms Q1) (hn : As.length = n) (hst : st = As.reverse ++ .ref b :: rest) (hlen : Nat.ble (mi_args (.ref b :: As)).length N.2.2.1 = true) (hml : Nat.ble N.2.2.1 40 = true) (hrest : (rest.map fun v => v.category).sum ≤ 8)
    (kr : ∀ (v : Option Value) (h' : va_W) (mc' ms' : Nat), Q1 (.inl v) h' mc' ms' → MW E M (d + 1) (pc + 3) lv (v.toList ++ rest) h' mc' ms' Q)
    (kt : ∀ (k : Nat) (h' : va_W) (mc' ms' : Nat), Q1 (.inr k) h' mc' ms' → ∃ hpc, mi_Ca M pc k hpc ∧ ∀ r : Nat, MW E M (d + 1) hpc lv [.ref r] h' mc' ms' Q) : MW E M (d + 1) pc lv st h mc ms Q := by
  intro p e R s m args below meth c H locs ls A cb sb Z hp hz T hT X
  obtain ⟨idx, y, r, hd, hcl, hl, hins, hsel, hy, hno, hpar⟩ := hf
  have hts := hp.2.1.1
  obtain ⟨cellB, hcell, hobj, hcls⟩ := va_recv hp.2.1.2.1 hp.2.2.2.1.1 hcl he0
  obtain ⟨mk, methM, hnamed, hmethM, hstM, habM⟩ := Cond.instanceMethod_spec (hts _ hins)
  obtain ⟨meth', c', m1, m2, -, -, -, -, -, -, hsig⟩ := mi_code hy hts hnamed
  cases hmethM.symm.trans m1
  obtain ⟨c2, r2, m2', q1, q2, q3, q4, kP, hkP, hkPi⟩ := Cond.selects_spec (hts _ hsel)
  cases hcls.symm.trans q1
  cases (State.methodFound?_of_named hnamed hno).symm.trans q2
  cases hnamed.symm.trans q3
  have hselP : selectMethod e.platform s.vm cellB.cls mk = .method mk := by rw [Launch.admits_selectMethod X.admits]; exact q4
  have hal : As.length = methM.sig.parameters.length := by
    rw [hsig] at hpar
    rw [hn]
    exact (Option.some.inj hpar).symm
  have hdc : decode c.code pc = .ok (Instr.invokevirtual idx, 3) := by rw [hp.1.2.1]; exact hd
  have key : ∃ vm₁, Stand p E.1 e R s m args below meth c (T.setVm vm₁) locs (mc - cb) (ms - sb) ∧ ∀ target, (∀ acts, Steps p.tables e below (doInvoke e ((T.setVm vm₁).setTop (F0 m pc ls rest)) acts mk (Value.ref b :: As).toArray).1 target) → Steps p.tables e below (T.setTop (F0 m pc ls st)) target := by
    rcases hl with hl | ⟨host, hl⟩
    · exact X.invokevirtual hp.1.1 hp.1.2.2.2.1 (hts _ hl) hnamed hmethM hstM hkP hkPi hno (a := b) (cell := cellB) (by rw [hT]; exact hcell) (fun z h => by rw [h] at hobj; cases hobj) hselP hmethM habM hkP hkPi (g := F0 m pc ls st) rfl (argsL := As) (rest := rest) hal hst hdc
    · exact X.invokevirtualNest hp.1.1 hp.1.2.2.2.1 (hts _ hl) hnamed hmethM hstM hkP hkPi hno (a := b) (cell := cellB) (by rw [hT]; exact hcell) (fun z h => by rw [h] at hobj; cases hobj) hselP hmethM habM hkP hkPi (g := F0 m pc ls st) rfl (argsL := As) (rest := rest) hal hst hdc
  obtain ⟨vm₁, X₁, hstep⟩ := key
  obtain ⟨o, h', mc', ms', t, hq, hs, he⟩ := mi_call hy hcall hlen hml hrest hp X₁ hT hnamed hd
  cases o with
  | inl v =>
    obtain ⟨t2, a1, b1⟩ := mi_back (N := N) hp X₁ hT hd he (kr v h' mc' ms' hq) hz
    exact ⟨t2, hstep _ (fun acts => (hs acts).trans a1), b1⟩
  | inr k =>
    obtain ⟨hpc, hca, hq2⟩ := kt k h' mc' ms' hq
    obtain ⟨t2, a1, b1⟩ := mi_caught hp hca X₁ hT he hq2 hz
    exact ⟨t2, hstep _ (fun acts => (hs acts).trans a1), b1⟩
theorem MW.thrVc {N : mi_M} {n ci b x hpc : Nat} {As rest : List Value} {h' : va_W} {mc' ms' : Nat} (hf : mi_Iv M N pc ci n) (q0 : Nat) {fs : List Value} (he0 : h[q0]? = some (b, .inr (ci, fs))) (hcall : MC E N d (.ref b :: As) h mc ms (xt x h' mc' ms')) (hn : As.length = n) (hst : st = As.reverse ++ .ref b :: rest) (hlen : Nat.ble (mi_args (.ref b :: As)).length N.2.2.1 = true) (hml : Nat.ble N.2.2.1 40 = true) (hrest : (rest.map fun v => v.category).sum ≤ 8) (hca : mi_Ca M pc x hpc)
    (kk : ∀ r : Nat, MW E M (d + 1) hpc lv [.ref r] h' (mc' + 1) (ms' + 6) Q) : MW E M (d + 1) pc lv st h mc ms Q :=
  MW.invVc hf q0 he0 hcall hn hst hlen hml hrest (fun _ _ _ _ e => by cases e.1) (fun _ _ _ _ e => by obtain ⟨e1, e2, e3, e4⟩ := e; cases e1; subst e2; subst e3; subst e4; exact ⟨hpc, hca, kk⟩)
end Caught
