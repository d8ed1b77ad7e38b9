/-- 'throw new E("text")' at pc, E the k-th of mi_exn -/
def mi_Tw (M : mi_M) (pc k : Nat) : Prop := ∃ (ik is ic : Nat) (text : String) (names : List String), Bundle.fit (mi_exn k) = true ∧ (∀ n ∈ names, Bundle.fit n = true) ∧ Cond.classLink M.1 ik (mi_exn k) ∈ mi_T ∧ Cond.initialized (mi_exn k) ∈ mi_T ∧ (M.1, is, text) ∈ mi_strs ∧ (∀ w ∈ vx_atS M.1 ic (mi_exn k) names, w ∈ mi_T) ∧
  (∀ w ∈ Cond.classLink M.1 ik (mi_exn k) :: Cond.initialized (mi_exn k) :: vx_atS M.1 ic (mi_exn k) names, vx_ot w = true) ∧ names.length ≤ 4 ∧ M.2.2.2.2.1 = [] ∧
  decode M.2.1 pc = .ok (Instr.new ik, 3) ∧ decode M.2.1 (pc + 3) = .ok (Instr.dup, 1) ∧ decode M.2.1 (pc + 4) = .ok (Instr.ldc is, 2) ∧ decode M.2.1 (pc + 6) = .ok (Instr.invokespecial ic, 3) ∧ decode M.2.1 (pc + 9) = .ok (Instr.athrow, 1)
theorem MW.throwS {E : mi_E} {M : mi_M} {d pc : Nat} {lv : List (Option Value)} {st : List Value} {h : va_W} {mc ms : Nat} {Q : mi_O → va_W → Nat → Nat → Prop} {k : Nat} (hf : mi_Tw M pc k) (hrest : (st.map fun v => v.category).sum ≤ 8) (hc1 : mc + 1 ≤ mi_CC) (hc2 : ms + 6 ≤ mi_CS) (hq : Q (.inr k) h (mc + 1) (ms + 6)) : MW E M (d + 8) pc lv st h mc ms Q := by
  intro p e R s m args below meth c H locs ls A cb sb Z hp hz
  obtain ⟨ik, is, ic, text, names, f1, f2, w1, w2, w3, w4, w5, hn, h0, d0, d3, d4, d6, d9⟩ := hf
  obtain ⟨⟨hx, hb, hmL, hown, hret, hlk, hhs, hnm⟩, ⟨hts, hK, hX, hbs, hbA, hTh⟩, ⟨hL, hLl⟩, ⟨hP, hD, hS, hA⟩, ⟨hR1, hR2, hR3, hR4⟩, hc1', hc2', hc3, hc4⟩ := id hp
  obtain ⟨t1, t2, t3, t4, -⟩ := hTh
  obtain ⟨sa, hsa⟩ := t4 _ w3
  have hout : ∀ y ∈ c.exceptionTable.toList, covers y (pc + 9) = false := by
    have h9 : c.exceptionTable.toList.map (fun x => (x.startPc, x.endPc, x.handlerPc, x.catchType)) = [] := by rw [← h0]; exact hhs
    rw [List.map_eq_nil_iff.mp h9]
    intro y hy
    cases hy
  refine W.mono (vx_throwS (Qc := fun _ _ _ _ => False) (XC := fun E1 _ t => E1 = mi_exn k ∧ H.size ≤ t.heap.size ∧ ∀ q : Nat, q < H.size → t.heap[q]? = H[q]?) (free := A) (mc := mc + 1 - cb) (ms := ms + 6 - sb) hx hb t1 hown f1 f2 (hts _ w1) (hts _ w2) hsa (fun w hw => hts w (w4 w hw)) w5 t2 t3 hS (by rw [hmL]; exact hL.1) d0 d3 d4 d6 d9 hout (by omega) (by omega) (by omega) (by omega) hlk (fun t _ h1 h2 => ⟨rfl, h1, h2⟩) hS.2.2 (by omega) (by omega)) (fun t ht => ?_)
  obtain ⟨o, g1, g2, ⟨g3, -⟩ | ⟨q, rfl, E1, ce, L, ⟨rfl, g4, g5⟩, g6, g7, g8, g9, g10, g11⟩⟩ := ht
  · exact g3.elim
  · refine hz (.inr k) h (mc + 1) (ms + 6) t hq ⟨.threw q, L, g1, g2, g9, g10, ⟨Nat.le_trans hS.1 g4, fun a a1 a2 => ?_, g11⟩, ?_, hD, ⟨q, ce, rfl, g6, g7, ?_⟩, by omega, by omega, hc1, hc2⟩
    · rw [g5 a (Nat.lt_of_lt_of_le a1 hS.1)]
      exact hS.2.1 a a1 a2
    · exact hP.kept (fun k2 x hx2 => g5 _ (hP k2 x hx2).lt)
    · rw [g9.alike.findClass]
      exact g8
