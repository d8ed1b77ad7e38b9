/-- a method that returns v, in the world h' -/
def rt (v : Option Value) (h : va_W) (mc ms : Nat) : mi_O → va_W → Nat → Nat → Prop := fun o h' mc' ms' => o = .inl v ∧ h' = h ∧ mc' = mc ∧ ms' = ms
/-- a method that throws the k-th exception, with nothing changed but the new cell -/
def xt (k : Nat) (h : va_W) (mc ms : Nat) : mi_O → va_W → Nat → Nat → Prop := fun o h' mc' ms' => o = .inr k ∧ h' = h ∧ mc' = mc + 1 ∧ ms' = ms + 6
theorem rt_r {v : Option Value} {h : va_W} {mc ms : Nat} : rt v h mc ms (.inl v) h mc ms := ⟨rfl, rfl, rfl, rfl⟩
theorem xt_r {k : Nat} {h : va_W} {mc ms : Nat} : xt k h mc ms (.inr k) h (mc + 1) (ms + 6) := ⟨rfl, rfl, rfl, rfl⟩
section Calls9
variable {E : mi_E} {M : mi_M} {d pc : Nat} {lv : List (Option Value)} {st : List Value} {h : va_W} {mc ms : Nat} {Q : mi_O → va_W → Nat → Nat → Prop}
theorem MW.heap {h' : va_W} (e : h = h') (k : MW E M d pc lv st h' mc ms Q) : MW E M d pc lv st h mc ms Q := e ▸ k
theorem MW.locs {lv' : List (Option Value)} (e : lv = lv') (k : MW E M d pc lv' st h mc ms Q) : MW E M d pc lv st h mc ms Q := e ▸ k
theorem MW.stk {st' : List Value} (e : st = st') (k : MW E M d pc lv st' h mc ms Q) : MW E M d pc lv st h mc ms Q := e ▸ k
theorem MW.top {v v' : Value} (e : v = v') (k : MW E M d pc lv (v' :: st) h mc ms Q) : MW E M d pc lv (v :: st) h mc ms Q := e ▸ k
theorem MW.callV {N : mi_M} {n ci b : Nat} {As rest : List Value} {v : Option Value} {h' : va_W} {mc' ms' : Nat} (hf : mi_Iv M N pc ci n) (q0 : Nat) {fs : List Value} (he0 : h[q0]? = some (b, .inr (ci, fs))) (hcall : MC E N d (.ref b :: As) h mc ms (rt v h' mc' ms')) (hn : As.length = n) (hst : st = As.reverse ++ .ref b :: rest) (hlen : Nat.ble (mi_args (.ref b :: As)).length N.2.2.1 = true) (hml : Nat.ble N.2.2.1 40 = true) (hrest : (rest.map fun v => v.category).sum ≤ 8)
    (k : MW E M (d + 1) (pc + 3) lv (v.toList ++ rest) h' mc' ms' Q) : MW E M (d + 1) pc lv st h mc ms Q :=
  MW.invV hf q0 he0 hcall hn hst hlen hml hrest (fun _ _ _ _ e => by obtain ⟨e1, e2, e3, e4⟩ := e; cases e1; subst e2; subst e3; subst e4; exact k) (fun _ _ _ _ e => by cases e.1)
theorem MW.callS {N : mi_M} {n : Nat} {As rest : List Value} {v : Option Value} {h' : va_W} {mc' ms' : Nat} (hf : mi_Is M N pc n) (hcall : MC E N d As h mc ms (rt v h' mc' ms')) (hn : As.length = n) (hst : st = As.reverse ++ rest) (hlen : Nat.ble (mi_args As).length N.2.2.1 = true) (hml : Nat.ble N.2.2.1 40 = true) (hrest : (rest.map fun v => v.category).sum ≤ 8)
    (k : MW E M (d + 1) (pc + 3) lv (v.toList ++ rest) h' mc' ms' Q) : MW E M (d + 1) pc lv st h mc ms Q :=
  MW.invS hf hcall hn hst hlen hml hrest (fun _ _ _ _ e => by obtain ⟨e1, e2, e3, e4⟩ := e; cases e1; subst e2; subst e3; subst e4; exact k) (fun _ _ _ _ e => by cases e.1)
theorem MW.callI {N : mi_M} {n b : Nat} {As rest : List Value} {v : Option Value} {h' : va_W} {mc' ms' : Nat} (hf : mi_Ii M N pc n) (hcall : MC E N d (.ref b :: As) h mc ms (rt v h' mc' ms')) (hn : As.length = n) (hst : st = As.reverse ++ .ref b :: rest) (hlen : Nat.ble (mi_args (.ref b :: As)).length N.2.2.1 = true) (hml : Nat.ble N.2.2.1 40 = true) (hrest : (rest.map fun v => v.category).sum ≤ 8)
    (k : MW E M (d + 1) (pc + 3) lv (v.toList ++ rest) h' mc' ms' Q) : MW E M (d + 1) pc lv st h mc ms Q :=
  MW.invI hf hcall hn hst hlen hml hrest (fun _ _ _ _ e => by obtain ⟨e1, e2, e3, e4⟩ := e; cases e1; subst e2; subst e3; subst e4; exact k) (fun _ _ _ _ e => by cases e.1)
theorem MW.thrV {N : mi_M} {n ci b x : Nat} {As rest : List Value} {h' : va_W} {mc' ms' : Nat} (hf : mi_Iv M N pc ci n) (q0 : Nat) {fs : List Value} (he0 : h[q0]? = some (b, .inr (ci, fs))) (hcall : MC E N d (.ref b :: As) h mc ms (xt x h' mc' ms')) (hn : As.length = n) (hst : st = As.reverse ++ .ref b :: rest) (hlen : Nat.ble (mi_args (.ref b :: As)).length N.2.2.1 = true) (hml : Nat.ble N.2.2.1 40 = true) (hrest : (rest.map fun v => v.category).sum ≤ 8) (h0 : M.2.2.2.2.1 = [])
    (hq : Q (.inr x) h' (mc' + 1) (ms' + 6)) : MW E M (d + 1) pc lv st h mc ms Q :=
  MW.invV hf q0 he0 hcall hn hst hlen hml hrest (fun _ _ _ _ e => by cases e.1) (fun _ _ _ _ e => by obtain ⟨e1, e2, e3, e4⟩ := e; cases e1; subst e2; subst e3; subst e4; exact ⟨h0, hq⟩)
theorem MW.thrS {N : mi_M} {n x : Nat} {As rest : List Value} {h' : va_W} {mc' ms' : Nat} (hf : mi_Is M N pc n) (hcall : MC E N d As h mc ms (xt x h' mc' ms')) (hn : As.length = n) (hst : st = As.reverse ++ rest) (hlen : Nat.ble (mi_args As).length N.2.2.1 = true) (hml : Nat.ble N.2.2.1 40 = true) (hrest : (rest.map fun v => v.category).sum ≤ 8) (h0 : M.2.2.2.2.1 = [])
    (hq : Q (.inr x) h' (mc' + 1) (ms' + 6)) : MW E M (d + 1) pc lv st h mc ms Q :=
  MW.invS hf hcall hn hst hlen hml hrest (fun _ _ _ _ e => by cases e.1) (fun _ _ _ _ e => by obtain ⟨e1, e2, e3, e4⟩ := e; cases e1; subst e2; subst e3; subst e4; exact ⟨h0, hq⟩)
/-- rows at a natural index -/
theorem MW.iaj (hd : decode M.2.1 pc = .ok (Instr.iaload, 1)) (q0 t0 : Nat) {a n j : Nat} {cA : ClassId} {f : Nat → Int32} (he : h[q0]? = some (a, .inl (cA, n, .inl f))) (ht : E.2.2.1[t0]? = some (cA, .int)) (hj : j < n) (hn : n < 2 ^ 31) (kk : MW E M d (pc + 1) lv (.int (f j) :: st) h mc ms Q) : MW E M d pc lv (.int (nI j) :: .ref a :: st) h mc ms Q :=
  MW.iald hd q0 t0 he ht (vp_in_nI hj hn) (by rw [nI_clamp (Nat.lt_trans hj hn)]; exact kk)
theorem MW.zaj (hd : decode M.2.1 pc = .ok (Instr.baload, 1)) (q0 t0 : Nat) {a n j : Nat} {cA : ClassId} {f : Nat → Int32} (he : h[q0]? = some (a, .inl (cA, n, .inl f))) (ht : E.2.2.1[t0]? = some (cA, .boolean)) (hj : j < n) (hn : n < 2 ^ 31) (kk : MW E M d (pc + 1) lv (.int (f j) :: st) h mc ms Q) : MW E M d pc lv (.int (nI j) :: .ref a :: st) h mc ms Q :=
  MW.zald hd q0 t0 he ht (vp_in_nI hj hn) (by rw [nI_clamp (Nat.lt_trans hj hn)]; exact kk)
theorem MW.isj (hd : decode M.2.1 pc = .ok (Instr.iastore, 1)) (q0 t0 : Nat) {a n j : Nat} {cA : ClassId} {f : Nat → Int32} {x : Int32} (he : h[q0]? = some (a, .inl (cA, n, .inl f))) (ht : E.2.2.1[t0]? = some (cA, .int)) (hj : j < n) (hn : n < 2 ^ 31) (kk : MW E M d (pc + 1) lv st (h.set q0 (a, .inl (cA, n, .inl (upd f j x)))) mc ms Q) : MW E M d pc lv (.int x :: .int (nI j) :: .ref a :: st) h mc ms Q :=
  MW.iast hd q0 t0 he ht (vp_in_nI hj hn) (by rw [nI_clamp (Nat.lt_trans hj hn)]; exact kk)
theorem MW.zsj (hd : decode M.2.1 pc = .ok (Instr.bastore, 1)) (q0 t0 : Nat) {a n j : Nat} {cA : ClassId} {f : Nat → Int32} {x : Int32} (he : h[q0]? = some (a, .inl (cA, n, .inl f))) (ht : E.2.2.1[t0]? = some (cA, .boolean)) (hj : j < n) (hn : n < 2 ^ 31) (hx : x = 0 ∨ x = 1) (kk : MW E M d (pc + 1) lv st (h.set q0 (a, .inl (cA, n, .inl (upd f j x)))) mc ms Q) : MW E M d pc lv (.int x :: .int (nI j) :: .ref a :: st) h mc ms Q :=
  MW.zast hd q0 t0 he ht (vp_in_nI hj hn) (by rw [nI_clamp (Nat.lt_trans hj hn), show vp_nar .boolean x = x by rcases hx with rfl | rfl <;> rfl]; exact kk)
end Calls9
section World9
variable {l : Launch} {D : va_G} {t : ty4} {b L : Nat} {xs : Nat → Int32} {q : Nat → Nat} {i : Nat → Int32} {a : Nat → Nat → Int32} {w : Int64}
variable {M : mi_M} {d pc : Nat} {lv : List (Option Value)} {st : List Value} {mc ms : Nat} {Q : mi_O → va_W → Nat → Nat → Prop}
/-- row[j] -/
theorem MW.row (hd : decode M.2.1 pc = .ok (Instr.aaload, 1)) {j : Nat} (hj : j < 8) (kk : MW (En l D t b L xs) M d (pc + 1) lv (.ref (q (6 + j)) :: st) (hw t q i a w) mc ms Q) : MW (En l D t b L xs) M d pc lv (.int (nI j) :: .ref (q 4) :: st) (hw t q i a w) mc ms Q :=
  MW.aald hd 4 2 (C := "TruckLoads$Pallet") rfl rfl (vp_in_nI hj (by omega)) (v := q (6 + j)) (by rw [nI_clamp (by omega)]) kk
/-- a pallet's field -/
theorem MW.palg {k j : Nat} (hf : mi_Gf M pc 2 k) (hj : j < 8) (hk : k < 6) (kk : MW (En l D t b L xs) M d (pc + 3) lv (.int (a (2 + k) j) :: st) (hw t q i a w) mc ms Q) : MW (En l D t b L xs) M d pc lv (.ref (q (6 + j)) :: st) (hw t q i a w) mc ms Q :=
  MW.getf hf (6 + j) (hw_pal hj) (v := .int (a (2 + k) j)) (by match k, hk with
    | 0, _ => rfl
    | 1, _ => rfl
    | 2, _ => rfl
    | 3, _ => rfl
    | 4, _ => rfl
    | 5, _ => rfl
    | _ + 6, h => exact absurd h (by omega)) kk
theorem MW.palp {k j : Nat} {fty : FieldType} {x : Int32} (hf : mi_Pf M pc 2 k fty) (hj : j < 8) (hk : k < 6) (hn : narrow fty (.int x) = .int x) (hfit : fits fty (.int x) = true) (kk : MW (En l D t b L xs) M d (pc + 3) lv st (hw t q i (au a (2 + k) (upd (a (2 + k)) j x)) w) mc ms Q) : MW (En l D t b L xs) M d pc lv (.int x :: .ref (q (6 + j)) :: st) (hw t q i a w) mc ms Q :=
  MW.putf hf (6 + j) (hw_pal hj) hn hfit (Nat.ble_eq_true_of_le (by show k + 1 ≤ 6; omega)) (by rw [hw_palset k hj hk]; exact kk)
theorem hw_s0_0 {x : Int32} : (hw t q i a w).set 5 (q 5, .inr (0, [.int x, .int (i 5), .int (i 6), .int (i 7)])) = hw t q (upd i 4 x) a w := rfl
theorem hw_s0_1 {x : Int32} : (hw t q i a w).set 5 (q 5, .inr (0, [.int (i 4), .int x, .int (i 6), .int (i 7)])) = hw t q (upd i 5 x) a w := rfl
theorem hw_s0_2 {x : Int32} : (hw t q i a w).set 5 (q 5, .inr (0, [.int (i 4), .int (i 5), .int x, .int (i 7)])) = hw t q (upd i 6 x) a w := rfl
theorem hw_s0_3 {x : Int32} : (hw t q i a w).set 5 (q 5, .inr (0, [.int (i 4), .int (i 5), .int (i 6), .int x])) = hw t q (upd i 7 x) a w := rfl
theorem hw_s1_0 {x : Int32} : (hw t q i a w).set 1 (q 1, .inr (1, [.int x, .ref (q 2), .ref (q 3), .ref (q 4), .ref (q 5), .int (i 3)])) = hw t q (upd i 2 x) a w := rfl
theorem hw_s1_5 {x : Int32} : (hw t q i a w).set 1 (q 1, .inr (1, [.int (i 2), .ref (q 2), .ref (q 3), .ref (q 4), .ref (q 5), .int x])) = hw t q (upd i 3 x) a w := rfl
theorem hw_s3_1 {x : Int32} : (hw t q i a w).set 16 (q 16, .inr (3, [.ref (q 17), .int x, .int (i 11)])) = hw t q (upd i 10 x) a w := rfl
theorem hw_s3_2 {x : Int32} : (hw t q i a w).set 16 (q 16, .inr (3, [.ref (q 17), .int (i 10), .int x])) = hw t q (upd i 11 x) a w := rfl
theorem hw_s4_1 {x : Int32} : (hw t q i a w).set 14 (q 14, .inr (4, [.ref (q 15), .int x, .int (i 9)])) = hw t q (upd i 8 x) a w := rfl
theorem hw_s4_2 {x : Int32} : (hw t q i a w).set 14 (q 14, .inr (4, [.ref (q 15), .int (i 8), .int x])) = hw t q (upd i 9 x) a w := rfl
theorem hw_s5_3 {x : Int32} : (hw t q i a w).set 0 (q 0, .inr (5, [.ref (q 1), .ref (q 14), .ref (q 16), .int x, .int (i 1)])) = hw t q (upd i 0 x) a w := rfl
theorem hw_s5_4 {x : Int32} : (hw t q i a w).set 0 (q 0, .inr (5, [.ref (q 1), .ref (q 14), .ref (q 16), .int (i 0), .int x])) = hw t q (upd i 1 x) a w := rfl
theorem hw_s6_0 {x : Int32} : (hw t q i a w).set 18 (q 18, .inr (6, [.int x, .ref (q 19), .ref (q 20), .int (i 13), .int (i 14), .int (i 15), .int (i 16), .int (i 17), .int (i 18), .ref (q 21), .ref (q 22), .ref (q 23), .ref (q 24), .ref (q 25), .ref (q 26), .ref (q 27), .int (i 19), .int (i 20), .int (i 21), .int (i 22), .ref (q 28)])) = hw t q (upd i 12 x) a w := rfl
theorem hw_s6_3 {x : Int32} : (hw t q i a w).set 18 (q 18, .inr (6, [.int (i 12), .ref (q 19), .ref (q 20), .int x, .int (i 14), .int (i 15), .int (i 16), .int (i 17), .int (i 18), .ref (q 21), .ref (q 22), .ref (q 23), .ref (q 24), .ref (q 25), .ref (q 26), .ref (q 27), .int (i 19), .int (i 20), .int (i 21), .int (i 22), .ref (q 28)])) = hw t q (upd i 13 x) a w := rfl
theorem hw_s6_4 {x : Int32} : (hw t q i a w).set 18 (q 18, .inr (6, [.int (i 12), .ref (q 19), .ref (q 20), .int (i 13), .int x, .int (i 15), .int (i 16), .int (i 17), .int (i 18), .ref (q 21), .ref (q 22), .ref (q 23), .ref (q 24), .ref (q 25), .ref (q 26), .ref (q 27), .int (i 19), .int (i 20), .int (i 21), .int (i 22), .ref (q 28)])) = hw t q (upd i 14 x) a w := rfl
theorem hw_s6_5 {x : Int32} : (hw t q i a w).set 18 (q 18, .inr (6, [.int (i 12), .ref (q 19), .ref (q 20), .int (i 13), .int (i 14), .int x, .int (i 16), .int (i 17), .int (i 18), .ref (q 21), .ref (q 22), .ref (q 23), .ref (q 24), .ref (q 25), .ref (q 26), .ref (q 27), .int (i 19), .int (i 20), .int (i 21), .int (i 22), .ref (q 28)])) = hw t q (upd i 15 x) a w := rfl
theorem hw_s6_6 {x : Int32} : (hw t q i a w).set 18 (q 18, .inr (6, [.int (i 12), .ref (q 19), .ref (q 20), .int (i 13), .int (i 14), .int (i 15), .int x, .int (i 17), .int (i 18), .ref (q 21), .ref (q 22), .ref (q 23), .ref (q 24), .ref (q 25), .ref (q 26), .ref (q 27), .int (i 19), .int (i 20), .int (i 21), .int (i 22), .ref (q 28)])) = hw t q (upd i 16 x) a w := rfl
theorem hw_s6_7 {x : Int32} : (hw t q i a w).set 18 (q 18, .inr (6, [.int (i 12), .ref (q 19), .ref (q 20), .int (i 13), .int (i 14), .int (i 15), .int (i 16), .int x, .int (i 18), .ref (q 21), .ref (q 22), .ref (q 23), .ref (q 24), .ref (q 25), .ref (q 26), .ref (q 27), .int (i 19), .int (i 20), .int (i 21), .int (i 22), .ref (q 28)])) = hw t q (upd i 17 x) a w := rfl
theorem hw_s6_8 {x : Int32} : (hw t q i a w).set 18 (q 18, .inr (6, [.int (i 12), .ref (q 19), .ref (q 20), .int (i 13), .int (i 14), .int (i 15), .int (i 16), .int (i 17), .int x, .ref (q 21), .ref (q 22), .ref (q 23), .ref (q 24), .ref (q 25), .ref (q 26), .ref (q 27), .int (i 19), .int (i 20), .int (i 21), .int (i 22), .ref (q 28)])) = hw t q (upd i 18 x) a w := rfl
theorem hw_s6_16 {x : Int32} : (hw t q i a w).set 18 (q 18, .inr (6, [.int (i 12), .ref (q 19), .ref (q 20), .int (i 13), .int (i 14), .int (i 15), .int (i 16), .int (i 17), .int (i 18), .ref (q 21), .ref (q 22), .ref (q 23), .ref (q 24), .ref (q 25), .ref (q 26), .ref (q 27), .int x, .int (i 20), .int (i 21), .int (i 22), .ref (q 28)])) = hw t q (upd i 19 x) a w := rfl
theorem hw_s6_17 {x : Int32} : (hw t q i a w).set 18 (q 18, .inr (6, [.int (i 12), .ref (q 19), .ref (q 20), .int (i 13), .int (i 14), .int (i 15), .int (i 16), .int (i 17), .int (i 18), .ref (q 21), .ref (q 22), .ref (q 23), .ref (q 24), .ref (q 25), .ref (q 26), .ref (q 27), .int (i 19), .int x, .int (i 21), .int (i 22), .ref (q 28)])) = hw t q (upd i 20 x) a w := rfl
theorem hw_s6_18 {x : Int32} : (hw t q i a w).set 18 (q 18, .inr (6, [.int (i 12), .ref (q 19), .ref (q 20), .int (i 13), .int (i 14), .int (i 15), .int (i 16), .int (i 17), .int (i 18), .ref (q 21), .ref (q 22), .ref (q 23), .ref (q 24), .ref (q 25), .ref (q 26), .ref (q 27), .int (i 19), .int (i 20), .int x, .int (i 22), .ref (q 28)])) = hw t q (upd i 21 x) a w := rfl
theorem hw_s6_19 {x : Int32} : (hw t q i a w).set 18 (q 18, .inr (6, [.int (i 12), .ref (q 19), .ref (q 20), .int (i 13), .int (i 14), .int (i 15), .int (i 16), .int (i 17), .int (i 18), .ref (q 21), .ref (q 22), .ref (q 23), .ref (q 24), .ref (q 25), .ref (q 26), .ref (q 27), .int (i 19), .int (i 20), .int (i 21), .int x, .ref (q 28)])) = hw t q (upd i 22 x) a w := rfl
theorem hw_a2 {f : Nat → Int32} : (hw t q i a w).set 2 (q 2, .inl (t.1, 12, .inl f)) = hw t q i (au a 0 f) w := rfl
theorem hw_a3 {f : Nat → Int32} : (hw t q i a w).set 3 (q 3, .inl (t.2.1, 12, .inl f)) = hw t q i (au a 1 f) w := rfl
theorem hw_a15 {f : Nat → Int32} : (hw t q i a w).set 15 (q 15, .inl (t.1, 5, .inl f)) = hw t q i (au a 8 f) w := rfl
theorem hw_a17 {f : Nat → Int32} : (hw t q i a w).set 17 (q 17, .inl (t.1, 10, .inl f)) = hw t q i (au a 9 f) w := rfl
theorem hw_a19 {f : Nat → Int32} : (hw t q i a w).set 19 (q 19, .inl (t.1, 12, .inl f)) = hw t q i (au a 10 f) w := rfl
theorem hw_a20 {f : Nat → Int32} : (hw t q i a w).set 20 (q 20, .inl (t.2.1, 12, .inl f)) = hw t q i (au a 11 f) w := rfl
theorem hw_a21 {f : Nat → Int32} : (hw t q i a w).set 21 (q 21, .inl (t.1, 8, .inl f)) = hw t q i (au a 12 f) w := rfl
theorem hw_a22 {f : Nat → Int32} : (hw t q i a w).set 22 (q 22, .inl (t.2.1, 8, .inl f)) = hw t q i (au a 13 f) w := rfl
theorem hw_a23 {f : Nat → Int32} : (hw t q i a w).set 23 (q 23, .inl (t.2.1, 8, .inl f)) = hw t q i (au a 14 f) w := rfl
theorem hw_a24 {f : Nat → Int32} : (hw t q i a w).set 24 (q 24, .inl (t.1, 8, .inl f)) = hw t q i (au a 15 f) w := rfl
theorem hw_a25 {f : Nat → Int32} : (hw t q i a w).set 25 (q 25, .inl (t.1, 8, .inl f)) = hw t q i (au a 16 f) w := rfl
theorem hw_a26 {f : Nat → Int32} : (hw t q i a w).set 26 (q 26, .inl (t.1, 8, .inl f)) = hw t q i (au a 17 f) w := rfl
theorem hw_a27 {f : Nat → Int32} : (hw t q i a w).set 27 (q 27, .inl (t.1, 8, .inl f)) = hw t q i (au a 18 f) w := rfl
theorem hw_a28 {f : Nat → Int32} : (hw t q i a w).set 28 (q 28, .inl (t.1, 10, .inl f)) = hw t q i (au a 19 f) w := rfl
theorem hw_out {x : Int64} : (hw t q i a w).set 29 (q 29, .inl (t.2.2.2, 1, .inr (.inl (fun _ => x)))) = hw t q i a x := rfl
end World9
