/-- the law answers true -/
def Q1 : mi_O → va_W → Nat → Nat → Prop := fun o _ _ _ => o = .inl (some (.int 1))
theorem six32 : Int32.ofInt 6 = nI 6 := by decide
section Loop
variable {l : Launch} {D : va_G} {t : ty4} {b L : Nat} {xs : Nat → Int32} {q : Nat → Nat}
theorem L_loop {n : Nat} (hL : L ≤ 3073) : ∀ (N p : Nat) (i : Nat → Int32) (a : Nat → Nat → Int32) (w : Int64) (k g mc ms : Nat) (z5 z6 : Option Value), L < p + N → p ≤ L + 1 → Rel i a n k g → mc + N + 1 ≤ mi_CC → ms + 6 * N + 6 ≤ mi_CS → MW (En l D t b L xs) ML_law 22 33 [some (.ref b), some (.ref (q 0)), some (.ref (q 18)), some (.ref (q 29)), some (.int (nI p)), z5, z6] [] (hw t q i a w) mc ms Q1 := by
  have hL31 : L < 2 ^ 31 := by omega
  have eL : ∀ p : Nat, p ≤ L + 1 → (Int32.ofNat L - 6 < nI p ↔ L < p + 6) := fun p hp => by
    have e1 : (nI L - nI 6).toInt = (L : Int) - 6 := pk_sub_toInt (by omega) (by omega)
    have e2 : (Int32.ofNat L - 6 : Int32).toInt = (L : Int) - 6 := e1
    rw [Int32.lt_iff_toInt_lt, e2, nI_toInt (by omega)]
    omega
  intro N
  induction N with
  | zero =>
    intro p i a w k g mc ms z5 z6 hN hp hR hc hs
    refine MW.iload dL_law_33 rfl ?_
    refine MW.aload_n dL_law_35 rfl ?_
    refine MW.slen (E := En l D t b L xs) dL_law_36 ?_
    refine MW.bipush (v := 6) dL_law_37 (by decide) ?_
    refine MW.isub dL_law_39 ?_
    refine MW.icmp_gt 1162 dL_law_40 (by decide) (fun hc40 => ?_) (fun hc40 => absurd ((eL p hp).mpr (by omega)) hc40)
    refine MW.iconst (v := 1) dL_law_1162 (by decide) ?_
    exact MW.ireturn dL_law_1163 rfl (rfl) rfl
  | succ N ih =>
    intro p i a w k g mc ms z5 z6 hN hp hR hc hs
    refine MW.iload dL_law_33 rfl ?_
    refine MW.aload_n dL_law_35 rfl ?_
    refine MW.slen (E := En l D t b L xs) dL_law_36 ?_
    refine MW.bipush (v := 6) dL_law_37 (by decide) ?_
    refine MW.isub dL_law_39 ?_
    refine MW.icmp_gt 1162 dL_law_40 (by decide) (fun hc40 => ?_) (fun hc40 => ?_)
    · refine MW.iconst (v := 1) dL_law_1162 (by decide) ?_
      exact MW.ireturn dL_law_1163 rfl (rfl) rfl
    have hp6 : p + 6 ≤ L := by
      apply Classical.byContradiction
      intro z
      exact hc40 ((eL p hp).mpr (by omega))
    have hmc : mc + 1 ≤ mi_CC := by omega
    have hms : ms + 6 ≤ mi_CS := by omega
    have hp5 : p + 5 < L := by omega
    have hQ : ∀ (i2 : Nat → Int32) (a2 : Nat → Nat → Int32) (w1 : Int64) (mc1 ms1 k2 g2 : Nat), Rel i2 a2 n k2 g2 → mc1 ≤ mc + 1 → ms1 ≤ ms + 6 → ∀ z5 z6 : Option Value, MW (En l D t b L xs) ML_law 22 1156 [some (.ref b), some (.ref (q 0)), some (.ref (q 18)), some (.ref (q 29)), some (.int (nI p)), z5, z6] [] (hw t q i2 a2 w1) mc1 ms1 Q1 := by
      intro i2 a2 w1 mc1 ms1 k2 g2 hR2 h1 h2 z5 z6
      refine MW.iinc (v := nI (p + 6)) dL_law_1156 rfl (by rw [six32, nI_add]) rfl rfl ?_
      refine MW.goto 33 dL_law_1159 (by decide) ?_
      exact ih (p + 6) i2 a2 w1 k2 g2 mc1 ms1 z5 z6 (by omega) (by omega) hR2 (by omega) (by omega)
    refine MW.aload_n dL_law_43 rfl ?_
    refine MW.iload dL_law_44 rfl ?_
    refine MW.sj dL_law_46 (by omega) hL31 ?_
    refine MW.bipush (v := 31) dL_law_47 (by decide) ?_
    refine MW.iand dL_law_49 ?_
    obtain ⟨j, hj, ej⟩ := pk_andE (xs p) (m := 31) 5 (by decide)
    refine MW.top (v' := .int (nI j)) (by rw [← ej]) ?_
    match j, hj with
    | 0, _ =>
      refine MW.tableIn 132 dL_law_50 (by decide) (by decide) rfl (by decide) ?_
      obtain ⟨kk, i1, i2, a1, a2, w1, mc1, ms1, k2, g2, hc, hm, ht, hR2, m1, m2⟩ := op_cell (l := l) (D := D) (t := t) (b := b) (L := L) (xs := xs) (q := q) (w := w) (x := xs (p + 1)) (y := xs (p + 2)) (z := bZ (xs (p + 3))) (bZ_01 _) hR hmc hms
      exact L_cell hp5 hL31 hc hm ht (hQ i2 a2 w1 mc1 ms1 k2 g2 hR2 m1 m2)
    | 1, _ =>
      refine MW.tableIn 208 dL_law_50 (by decide) (by decide) rfl (by decide) ?_
      obtain ⟨kk, i1, i2, a1, a2, w1, mc1, ms1, k2, g2, hc, hm, ht, hR2, m1, m2⟩ := op_axles (l := l) (D := D) (t := t) (b := b) (L := L) (xs := xs) (q := q) (w := w) (x := xs (p + 1)) (y := xs (p + 2)) (z := xs (p + 3)) (v := xs (p + 4))  hR hmc hms
      exact L_axles hp5 hL31 hc hm ht (hQ i2 a2 w1 mc1 ms1 k2 g2 hR2 m1 m2)
    | 2, _ =>
      refine MW.tableIn 280 dL_law_50 (by decide) (by decide) rfl (by decide) ?_
      obtain ⟨kk, v, i1, i2, a1, a2, w1, mc1, ms1, k2, g2, hc, hm, ht, hv, hR2, m1, m2⟩ := op_pallet (l := l) (D := D) (t := t) (b := b) (L := L) (xs := xs) (q := q) (w := w) (x := xs (p + 1)) (y := bZ (xs (p + 2))) (z := bZ (xs (p + 3))) (s := xs (p + 4)) (v := xs (p + 5)) (bZ_01 _) (bZ_01 _) hR hmc hms
      exact L_pallet hp5 hL31 hc hm ht hv (hQ i2 a2 w1 mc1 ms1 k2 g2 hR2 m1 m2)
    | 3, _ =>
      refine MW.tableIn 416 dL_law_50 (by decide) (by decide) rfl (by decide) ?_
      obtain ⟨kk, v, i1, i2, a1, a2, w1, mc1, ms1, k2, g2, hc, hm, ht, hv, hR2, m1, m2⟩ := op_solve (l := l) (D := D) (t := t) (b := b) (L := L) (xs := xs) (q := q) (w := w) (x := xs (p + 1))  hR hmc hms
      exact L_solve hp5 hL31 hc hm ht hv (hQ i2 a2 w1 mc1 ms1 k2 g2 hR2 m1 m2)
    | 4, _ =>
      refine MW.tableIn 472 dL_law_50 (by decide) (by decide) rfl (by decide) ?_
      obtain ⟨v, i2, a2, k2, g2, hc, hm, hR2⟩ := op_exact (l := l) (D := D) (t := t) (b := b) (L := L) (xs := xs) (q := q) (w := w) (mc := mc) (ms := ms)  hR
      exact L_exact hp5 hL31 hc hm (hQ i2 a2 w mc ms k2 g2 hR2 (by omega) (by omega))
    | 5, _ =>
      refine MW.tableIn 485 dL_law_50 (by decide) (by decide) rfl (by decide) ?_
      obtain ⟨v, i2, a2, k2, g2, hc, hm, hR2⟩ := op_bound (l := l) (D := D) (t := t) (b := b) (L := L) (xs := xs) (q := q) (w := w) (mc := mc) (ms := ms)  hR
      exact L_bound hp5 hL31 hc hm (hQ i2 a2 w mc ms k2 g2 hR2 (by omega) (by omega))
    | 6, _ =>
      refine MW.tableIn 498 dL_law_50 (by decide) (by decide) rfl (by decide) ?_
      obtain ⟨kk, v, i1, i2, a1, a2, w1, mc1, ms1, k2, g2, hc, hm, ht, hv, hR2, m1, m2⟩ := op_place (l := l) (D := D) (t := t) (b := b) (L := L) (xs := xs) (q := q) (w := w) (p := xs (p + 1)) (c := xs (p + 2))  hR hmc hms
      exact L_place hp5 hL31 hc hm ht hv (hQ i2 a2 w1 mc1 ms1 k2 g2 hR2 m1 m2)
    | 7, _ =>
      refine MW.tableIn 566 dL_law_50 (by decide) (by decide) rfl (by decide) ?_
      obtain ⟨kk, v, i1, i2, a1, a2, w1, mc1, ms1, k2, g2, hc, hm, ht, hv, hR2, m1, m2⟩ := op_at (l := l) (D := D) (t := t) (b := b) (L := L) (xs := xs) (q := q) (w := w) (p := xs (p + 1))  hR hmc hms
      exact L_at hp5 hL31 hc hm ht hv (hQ i2 a2 w1 mc1 ms1 k2 g2 hR2 m1 m2)
    | 8, _ =>
      refine MW.tableIn 622 dL_law_50 (by decide) (by decide) rfl (by decide) ?_
      obtain ⟨kk, v, i1, i2, a1, a2, w1, mc1, ms1, k2, g2, hc, hm, ht, hv, hR2, m1, m2⟩ := op_axle (l := l) (D := D) (t := t) (b := b) (L := L) (xs := xs) (q := q) (w := w) (x := xs (p + 1)) (y := xs (p + 2))  hR hmc hms
      exact L_axle hp5 hL31 hc hm ht hv (hQ i2 a2 w1 mc1 ms1 k2 g2 hR2 m1 m2)
    | 9, _ =>
      refine MW.tableIn 690 dL_law_50 (by decide) (by decide) rfl (by decide) ?_
      obtain ⟨kk, v, i1, i2, a1, a2, w1, mc1, ms1, k2, g2, hc, hm, ht, hv, hR2, m1, m2⟩ := op_bar (l := l) (D := D) (t := t) (b := b) (L := L) (xs := xs) (q := q) (w := w) (p := xs (p + 1))  hR hmc hms
      exact L_bar hp5 hL31 hc hm ht hv (hQ i2 a2 w1 mc1 ms1 k2 g2 hR2 m1 m2)
    | 10, _ =>
      refine MW.tableIn 746 dL_law_50 (by decide) (by decide) rfl (by decide) ?_
      obtain ⟨kk, v, i1, i2, a1, a2, w1, mc1, ms1, k2, g2, hc, hm, ht, hv, hR2, m1, m2⟩ := op_change (l := l) (D := D) (t := t) (b := b) (L := L) (xs := xs) (q := q) (w := w) (p := xs (p + 1)) (s := xs (p + 2))  hR hmc hms
      exact L_change hp5 hL31 hc hm ht hv (hQ i2 a2 w1 mc1 ms1 k2 g2 hR2 m1 m2)
    | 11, _ =>
      refine MW.tableIn 821 dL_law_50 (by decide) (by decide) rfl (by decide) ?_
      obtain ⟨kk, v, i1, i2, a1, a2, w1, mc1, ms1, k2, g2, hc, hm, ht, hv, hR2, m1, m2⟩ := op_doors (l := l) (D := D) (t := t) (b := b) (L := L) (xs := xs) (q := q) (w := w) (o := bZ (xs (p + 1))) (bZ_01 _) hR hmc hms
      exact L_doors hp5 hL31 hc hm ht hv (hQ i2 a2 w1 mc1 ms1 k2 g2 hR2 m1 m2)
    | 12, _ =>
      refine MW.tableIn 900 dL_law_50 (by decide) (by decide) rfl (by decide) ?_
      obtain ⟨kk, v, i1, i2, a1, a2, w1, mc1, ms1, k2, g2, hc, hm, ht, hv, hR2, m1, m2⟩ := op_seal (l := l) (D := D) (t := t) (b := b) (L := L) (xs := xs) (q := q) (w := w) (x := xs (p + 1))  hR hmc hms
      exact L_seal hp5 hL31 hc hm ht hv (hQ i2 a2 w1 mc1 ms1 k2 g2 hR2 m1 m2)
    | 13, _ =>
      refine MW.tableIn 963 dL_law_50 (by decide) (by decide) rfl (by decide) ?_
      obtain ⟨kk, v, i1, i2, a1, a2, w1, mc1, ms1, k2, g2, hc, hm, ht, hv, hR2, m1, m2⟩ := op_broken (l := l) (D := D) (t := t) (b := b) (L := L) (xs := xs) (q := q) (w := w)   hR hmc hms
      exact L_broken hp5 hL31 hc hm ht hv (hQ i2 a2 w1 mc1 ms1 k2 g2 hR2 m1 m2)
    | 14, _ =>
      refine MW.tableIn 1007 dL_law_50 (by decide) (by decide) rfl (by decide) ?_
      obtain ⟨kk, v, i1, i2, a1, a2, w1, mc1, ms1, k2, g2, hc, hm, ht, hv, hR2, m1, m2⟩ := op_order (l := l) (D := D) (t := t) (b := b) (L := L) (xs := xs) (q := q) (w := w) (s := xs (p + 1)) (x := xs (p + 2))  hR hmc hms
      exact L_order hp5 hL31 hc hm ht hv (hQ i2 a2 w1 mc1 ms1 k2 g2 hR2 m1 m2)
    | 15, _ =>
      refine MW.tableIn 1075 dL_law_50 (by decide) (by decide) rfl (by decide) ?_
      obtain ⟨kk, v, i1, i2, a1, a2, w1, mc1, ms1, k2, g2, hc, hm, ht, hv, hR2, m1, m2⟩ := op_manifest (l := l) (D := D) (t := t) (b := b) (L := L) (xs := xs) (q := q) (w := w) (x := xs (p + 1))  hR hmc hms
      exact L_manifest hp5 hL31 hc hm ht hv (hQ i2 a2 w1 mc1 ms1 k2 g2 hR2 m1 m2)
    | 16, _ =>
      refine MW.tableIn 1131 dL_law_50 (by decide) (by decide) rfl (by decide) ?_
      obtain ⟨v, i2, a2, k2, g2, hc, hm, hR2⟩ := op_count (l := l) (D := D) (t := t) (b := b) (L := L) (xs := xs) (q := q) (w := w) (mc := mc) (ms := ms) (x := xs (p + 1)) hR
      exact L_count hp5 hL31 hc hm (hQ i2 a2 w mc ms k2 g2 hR2 (by omega) (by omega))
    | j + 17, hj =>
      refine MW.tableOut 1156 dL_law_50 (Or.inr (by rw [nI_toInt (by omega)]; omega)) (by decide) ?_
      exact hQ i a w mc ms k g hR (by omega) (by omega) z5 z6
end Loop
