/-- a truth as an int -/
noncomputable def bI (p : Prop) : Int32 := @ite Int32 p (Classical.propDecidable p) 1 0
theorem bI_t {p : Prop} (h : p) : bI p = 1 := if_pos h
theorem bI_f {p : Prop} (h : ¬ p) : bI p = 0 := if_neg h
theorem bI_c {p r : Prop} (h : p ↔ r) : bI p = bI r := by rw [propext h]
theorem bI_01 (p : Prop) : bI p = 0 ∨ bI p = 1 := by
  by_cases h : p
  · exact Or.inr (bI_t h)
  · exact Or.inl (bI_f h)
theorem bI_0 {p : Prop} : bI p = 0 ↔ ¬ p := by
  by_cases h : p
  · rw [bI_t h]; exact ⟨fun z => absurd z (by decide), fun z => absurd h z⟩
  · rw [bI_f h]; exact ⟨fun _ => h, fun _ => rfl⟩
theorem rtb_t {p : Prop} {h : va_W} {mc ms : Nat} (hp : p) : rt (some (.int (bI p))) h mc ms (.inl (some (.int 1))) h mc ms := ⟨by rw [bI_t hp], rfl, rfl, rfl⟩
theorem rtb_f {p : Prop} {h : va_W} {mc ms : Nat} (hp : ¬ p) : rt (some (.int (bI p))) h mc ms (.inl (some (.int 0))) h mc ms := ⟨by rw [bI_f hp], rfl, rfl, rfl⟩
theorem rt_e {x y : Int32} {h : va_W} {mc ms : Nat} (e : x = y) : rt (some (.int x)) h mc ms (.inl (some (.int y))) h mc ms := by rw [e]; exact rt_r
/-- an axle's share of a weight, times the span -/
def shr (i : Nat → Int32) (ax wt c : Int32) : Int32 := if ax = 0 then wt * (i 5 - c) else wt * (c - i 4)
section Leaf
variable {l : Launch} {D : va_G} {t : ty4} {b L : Nat} {xs : Nat → Int32} {q : Nat → Nat} {i : Nat → Int32} {a : Nat → Nat → Int32} {w : Int64} {d mc ms : Nat}
set_option maxHeartbeats 1000000 in
theorem c_span : MC (En l D t b L xs) MX0_span d [.ref (q 5)] (hw t q i a w) mc ms (rt (some (.int (i 5 - i 4))) (hw t q i a w) mc ms) := by
  show MW _ _ _ 0 [some (.ref (q 5))] [] _ _ _ _
  refine MW.aload_n dX0_span_0 rfl ?_
  refine MW.getf fX0_span_1 5 rfl rfl ?_
  refine MW.aload_n dX0_span_4 rfl ?_
  refine MW.getf fX0_span_5 5 rfl rfl ?_
  refine MW.isub dX0_span_8 ?_
  exact MW.ireturn dX0_span_9 rfl (rfl) rt_r
set_option maxHeartbeats 1000000 in
theorem c_share {ax wt c : Int32} : MC (En l D t b L xs) MX0_share d [.ref (q 5), .int ax, .int wt, .int c] (hw t q i a w) mc ms (rt (some (.int (shr i ax wt c))) (hw t q i a w) mc ms) := by
  show MW _ _ _ 0 [some (.ref (q 5)), some (.int ax), some (.int wt), some (.int c)] [] _ _ _ _
  refine MW.iload_n dX0_share_0 rfl ?_
  refine MW.if_ne 15 dX0_share_1 (by decide) (fun hc1 => ?_) (fun hc1 => ?_)
  · skip
    refine MW.iload_n dX0_share_15 rfl ?_
    refine MW.iload_n dX0_share_16 rfl ?_
    refine MW.aload_n dX0_share_17 rfl ?_
    refine MW.getf fX0_share_18 5 rfl rfl ?_
    refine MW.isub dX0_share_21 ?_
    refine MW.imul dX0_share_22 ?_
    exact MW.ireturn dX0_share_23 rfl (rfl) (rt_e (by unfold shr; first | rw [if_pos (by assumption)] | rw [if_neg (by assumption)]))
  · skip
    refine MW.iload_n dX0_share_4 rfl ?_
    refine MW.aload_n dX0_share_5 rfl ?_
    refine MW.getf fX0_share_6 5 rfl rfl ?_
    refine MW.iload_n dX0_share_9 rfl ?_
    refine MW.isub dX0_share_10 ?_
    refine MW.imul dX0_share_11 ?_
    refine MW.goto 23 dX0_share_12 (by decide) ?_
    exact MW.ireturn dX0_share_23 rfl (rfl) (rt_e (by unfold shr; first | rw [if_pos (by assumption)] | rw [if_neg (by assumption)]))
set_option maxHeartbeats 1000000 in
theorem c_bear {x y : Int32} : MC (En l D t b L xs) MX0_bear (d + 1) [.ref (q 5), .int x, .int y] (hw t q i a w) mc ms (rt (some (.int (bI (x ≤ i 6 * (i 5 - i 4) ∧ y ≤ i 7 * (i 5 - i 4))))) (hw t q i a w) mc ms) := by
  show MW _ _ _ 0 [some (.ref (q 5)), some (.int x), some (.int y)] [] _ _ _ _
  refine MW.iload_n dX0_bear_0 rfl ?_
  refine MW.aload_n dX0_bear_1 rfl ?_
  refine MW.getf fX0_bear_2 5 rfl rfl ?_
  refine MW.aload_n dX0_bear_5 rfl ?_
  refine MW.callV1 fX0_bear_6 5 rfl (c_span) rfl rfl rfl rfl (Nat.le_of_ble_eq_true rfl) ?_
  refine MW.imul dX0_bear_9 ?_
  refine MW.icmp_gt 30 dX0_bear_10 (by decide) (fun hc10 => ?_) (fun hc10 => ?_)
  · skip
    refine MW.iconst (v := 0) dX0_bear_30 (by decide) ?_
    exact MW.ireturn dX0_bear_31 rfl (rfl) (by first | exact rtb_t ⟨Int32.not_lt.mp (by assumption), Int32.not_lt.mp (by assumption)⟩ | exact rtb_f (fun z => by first | exact absurd z.1 (Int32.not_le.mpr (by assumption)) | exact absurd z.2 (Int32.not_le.mpr (by assumption))))
  · skip
    refine MW.iload_n dX0_bear_13 rfl ?_
    refine MW.aload_n dX0_bear_14 rfl ?_
    refine MW.getf fX0_bear_15 5 rfl rfl ?_
    refine MW.aload_n dX0_bear_18 rfl ?_
    refine MW.callV1 fX0_bear_19 5 rfl (c_span) rfl rfl rfl rfl (Nat.le_of_ble_eq_true rfl) ?_
    refine MW.imul dX0_bear_22 ?_
    refine MW.icmp_gt 30 dX0_bear_23 (by decide) (fun hc23 => ?_) (fun hc23 => ?_)
    · skip
      refine MW.iconst (v := 0) dX0_bear_30 (by decide) ?_
      exact MW.ireturn dX0_bear_31 rfl (rfl) (by first | exact rtb_t ⟨Int32.not_lt.mp (by assumption), Int32.not_lt.mp (by assumption)⟩ | exact rtb_f (fun z => by first | exact absurd z.1 (Int32.not_le.mpr (by assumption)) | exact absurd z.2 (Int32.not_le.mpr (by assumption))))
    · skip
      refine MW.iconst (v := 1) dX0_bear_26 (by decide) ?_
      refine MW.goto 31 dX0_bear_27 (by decide) ?_
      exact MW.ireturn dX0_bear_31 rfl (rfl) (by first | exact rtb_t ⟨Int32.not_lt.mp (by assumption), Int32.not_lt.mp (by assumption)⟩ | exact rtb_f (fun z => by first | exact absurd z.1 (Int32.not_le.mpr (by assumption)) | exact absurd z.2 (Int32.not_le.mpr (by assumption))))
set_option maxHeartbeats 1000000 in
theorem c_stands {j : Nat} (hj : j < 8) : MC (En l D t b L xs) MX2_stands d [.ref (q (6 + j))] (hw t q i a w) mc ms (rt (some (.int (bI (¬ a 7 j = -1)))) (hw t q i a w) mc ms) := by
  show MW _ _ _ 0 [some (.ref (q (6 + j)))] [] _ _ _ _
  refine MW.aload_n dX2_stands_0 rfl ?_
  refine MW.pg5 fX2_stands_1 hj ?_
  refine MW.iconst (v := -1) dX2_stands_4 (by decide) ?_
  refine MW.icmp_eq 12 dX2_stands_5 (by decide) (fun hc5 => ?_) (fun hc5 => ?_)
  · skip
    refine MW.iconst (v := 0) dX2_stands_12 (by decide) ?_
    exact MW.ireturn dX2_stands_13 rfl (rfl) (by first | exact rtb_t (by assumption) | exact rtb_f (fun z => z (by assumption)))
  · skip
    refine MW.iconst (v := 1) dX2_stands_8 (by decide) ?_
    refine MW.goto 13 dX2_stands_9 (by decide) ?_
    exact MW.ireturn dX2_stands_13 rfl (rfl) (by first | exact rtb_t (by assumption) | exact rtb_f (fun z => z (by assumption)))
set_option maxHeartbeats 1000000 in
theorem c_hasCell {c : Int32} : MC (En l D t b L xs) MX1_hasCell d [.ref (q 1), .int c] (hw t q i a w) mc ms (rt (some (.int (bI (0 ≤ c ∧ c < i 2)))) (hw t q i a w) mc ms) := by
  show MW _ _ _ 0 [some (.ref (q 1)), some (.int c)] [] _ _ _ _
  refine MW.iload_n dX1_hasCell_0 rfl ?_
  refine MW.if_lt 16 dX1_hasCell_1 (by decide) (fun hc1 => ?_) (fun hc1 => ?_)
  · skip
    refine MW.iconst (v := 0) dX1_hasCell_16 (by decide) ?_
    exact MW.ireturn dX1_hasCell_17 rfl (rfl) (by first | exact rtb_t ⟨Int32.not_lt.mp (by assumption), Int32.not_le.mp (by assumption)⟩ | exact rtb_f (fun z => by first | exact absurd z.1 (Int32.not_le.mpr (by assumption)) | exact absurd z.2 (Int32.not_lt.mpr (by assumption))))
  · skip
    refine MW.iload_n dX1_hasCell_4 rfl ?_
    refine MW.aload_n dX1_hasCell_5 rfl ?_
    refine MW.getf fX1_hasCell_6 1 rfl rfl ?_
    refine MW.icmp_ge 16 dX1_hasCell_9 (by decide) (fun hc9 => ?_) (fun hc9 => ?_)
    · skip
      refine MW.iconst (v := 0) dX1_hasCell_16 (by decide) ?_
      exact MW.ireturn dX1_hasCell_17 rfl (rfl) (by first | exact rtb_t ⟨Int32.not_lt.mp (by assumption), Int32.not_le.mp (by assumption)⟩ | exact rtb_f (fun z => by first | exact absurd z.1 (Int32.not_le.mpr (by assumption)) | exact absurd z.2 (Int32.not_lt.mpr (by assumption))))
    · skip
      refine MW.iconst (v := 1) dX1_hasCell_12 (by decide) ?_
      refine MW.goto 17 dX1_hasCell_13 (by decide) ?_
      exact MW.ireturn dX1_hasCell_17 rfl (rfl) (by first | exact rtb_t ⟨Int32.not_lt.mp (by assumption), Int32.not_le.mp (by assumption)⟩ | exact rtb_f (fun z => by first | exact absurd z.1 (Int32.not_le.mpr (by assumption)) | exact absurd z.2 (Int32.not_lt.mpr (by assumption))))
end Leaf
