/-- how many of the first n stand, in Java's ints -/
def stn (wh : Nat → Int32) : Nat → Int32
  | 0 => 0
  | n + 1 => if wh n = -1 then stn wh n else stn wh n + 1
/-- what they weigh -/
def wtn (wt wh : Nat → Int32) : Nat → Int32
  | 0 => 0
  | n + 1 => if wh n = -1 then wtn wt wh n else wtn wt wh n + wt n
/-- what they bring on an axle, g the axle's share of a weight in a cell -/
def axn (g : Int32 → Int32 → Int32) (wt wh : Nat → Int32) : Nat → Int32
  | 0 => 0
  | n + 1 => if wh n = -1 then axn g wt wh n else axn g wt wh n + g (wt n) (wh n)
/-- Math.abs -/
def ab (x : Int32) : Int32 := if 0 ≤ x then x else 0 - x
/-- a dangerous one beside the cell c for the pallet j -/
def dgP (dg wh : Nat → Int32) (k j : Nat) (c : Int32) : Prop := ∃ m, m < k ∧ m ≠ j ∧ ¬ wh m = -1 ∧ ¬ dg j = 0 ∧ ¬ dg m = 0 ∧ ab (wh m - c) = 1
/-- by stops the pallet j, for the stop s, could not stand in c -/
def spP (sp wh : Nat → Int32) (k j : Nat) (s c : Int32) : Prop := ∃ m, m < k ∧ m ≠ j ∧ ¬ wh m = -1 ∧ (sp m < s ∧ wh m < c ∨ s < sp m ∧ c < wh m)
section PalCmp
variable {E : mi_E} {M : mi_M} {d pc : Nat} {lv : List (Option Value)} {st : List Value} {h : va_W} {mc ms : Nat} {Q : mi_O → va_W → Nat → Nat → Prop}
/-- two cells of the world compared: by their places -/
theorem MW.acmpD {x y : Nat} {off : Int} {e0 e1 : va_E} (tgt : Nat) (hd : decode M.2.1 pc = .ok (Instr.if_acmp .eq off, 3)) (ht : (pc : Int) + off = (tgt : Int)) (p0 p1 : Nat) (h0 : h[p0]? = some (x, e0)) (h1 : h[p1]? = some (y, e1)) (kt : p0 = p1 → MW E M d tgt lv st h mc ms Q) (kf : ¬ p0 = p1 → MW E M d (pc + 3) lv st h mc ms Q) : MW E M d pc lv (.ref y :: .ref x :: st) h mc ms Q := by
  intro p e R s m args below meth c H locs ls A cb sb Z hp hz
  refine MW.acmp_eq tgt hd ht (fun hxy => ?_) (fun hxy => ?_) p e R s m args below meth c H locs ls A cb sb Z hp hz
  · exact kt (hp.2.2.2.1.2.1.1 p0 p1 _ _ h0 h1 hxy)
  · refine kf (fun z => hxy ?_)
    subst z
    rw [h0] at h1
    exact congrArg Prod.fst (Option.some.inj h1)
end PalCmp
section Load1
variable {l : Launch} {D : va_G} {t : ty4} {b L : Nat} {xs : Nat → Int32} {q : Nat → Nat} {i : Nat → Int32} {a : Nat → Nat → Int32} {w : Int64} {d mc ms : Nat}
set_option maxHeartbeats 2000000 in
theorem l_isTaken {k : Nat} (hk : i 3 = nI k) (hk8 : k ≤ 8) {c : Int32} : ∀ (r j : Nat), j + r = k → (∀ m, m < j → ¬ a 7 m = c) → MW (En l D t b L xs) MX1_isTaken d 2 [some (.ref (q 1)), some (.int c), some (.int (nI j))] [] (hw t q i a w) mc ms (rt (some (.int (bI (∃ m, m < k ∧ a 7 m = c)))) (hw t q i a w) mc ms) := by
  intro r
  induction r with
  | zero =>
    intro j  hj hI
    refine MW.iload_n dX1_isTaken_2 rfl ?_
    refine MW.aload_n dX1_isTaken_3 rfl ?_
    refine MW.getf fX1_isTaken_4 1 rfl rfl ?_
    refine MW.icmp_ge 31 dX1_isTaken_7 (by decide) (fun hc7 => ?_) (fun hc7 => absurd (show i 3 ≤ nI j by rw [hk]; exact nI_le (by omega) (by omega)) hc7)
    refine MW.iconst (v := 0) dX1_isTaken_31 (by decide) ?_
    exact MW.ireturn dX1_isTaken_32 rfl (rfl) (rtb_f (fun ⟨m, h1, h2⟩ => hI m (by omega) h2))
  | succ r ih =>
    intro j  hj hI
    have hjk : j < k := by omega
    refine MW.iload_n dX1_isTaken_2 rfl ?_
    refine MW.aload_n dX1_isTaken_3 rfl ?_
    refine MW.getf fX1_isTaken_4 1 rfl rfl ?_
    refine MW.icmp_ge 31 dX1_isTaken_7 (by decide) (fun hc7 => absurd hc7 (show ¬ i 3 ≤ nI j by rw [hk]; exact nI_ge (by omega) (by omega))) (fun hc7 => ?_)
    refine MW.aload_n dX1_isTaken_10 rfl ?_
    refine MW.getf fX1_isTaken_11 1 rfl rfl ?_
    refine MW.iload_n dX1_isTaken_14 rfl ?_
    refine MW.row dX1_isTaken_15 (show j < 8 by omega) ?_
    refine MW.pg5 fX1_isTaken_16 (show j < 8 by omega) ?_
    refine MW.iload_n dX1_isTaken_19 rfl ?_
    refine MW.icmp_ne 25 dX1_isTaken_20 (by decide) (fun hc20 => ?_) (fun hc20 => ?_)
    · skip
      refine MW.iincj dX1_isTaken_25 rfl rfl rfl ?_
      refine MW.goto 2 dX1_isTaken_28 (by decide) ?_
      exact ih (j + 1) (by omega) (lt_s hI (by assumption))
    · skip
      refine MW.iconst (v := 1) dX1_isTaken_23 (by decide) ?_
      exact MW.ireturn dX1_isTaken_24 rfl (rfl) (rtb_t ⟨j, by omega, by assumption⟩)
theorem c_isTaken {k : Nat} (hk : i 3 = nI k) (hk8 : k ≤ 8) {c : Int32} : MC (En l D t b L xs) MX1_isTaken d [.ref (q 1), .int c] (hw t q i a w) mc ms (rt (some (.int (bI (∃ m, m < k ∧ a 7 m = c)))) (hw t q i a w) mc ms) := by
  show MW _ _ _ 0 [some (.ref (q 1)), some (.int c), none] [] _ _ _ _
  refine MW.iconst (v := 0) dX1_isTaken_0 (by decide) ?_
  refine MW.istore_n dX1_isTaken_1 rfl rfl ?_
  exact l_isTaken hk hk8 k 0 (by omega) (fun m h => absurd h (by omega))
set_option maxHeartbeats 2000000 in
theorem l_standing {k : Nat} (hk : i 3 = nI k) (hk8 : k ≤ 8)  : ∀ (r j : Nat), j + r = k → MW (En l D t b L xs) MX1_standing (d + 1) 4 [some (.ref (q 1)), some (.int (stn (a 7) j)), some (.int (nI j))] [] (hw t q i a w) mc ms (rt (some (.int (stn (a 7) k))) (hw t q i a w) mc ms) := by
  intro r
  induction r with
  | zero =>
    intro j  hj 
    refine MW.iload_n dX1_standing_4 rfl ?_
    refine MW.aload_n dX1_standing_5 rfl ?_
    refine MW.getf fX1_standing_6 1 rfl rfl ?_
    refine MW.icmp_ge 33 dX1_standing_9 (by decide) (fun hc9 => ?_) (fun hc9 => absurd (show i 3 ≤ nI j by rw [hk]; exact nI_le (by omega) (by omega)) hc9)
    refine MW.iload_n dX1_standing_33 rfl ?_
    exact MW.ireturn dX1_standing_34 rfl (rfl) (rt_e (by rw [show k = j by omega]))
  | succ r ih =>
    intro j  hj 
    have hjk : j < k := by omega
    refine MW.iload_n dX1_standing_4 rfl ?_
    refine MW.aload_n dX1_standing_5 rfl ?_
    refine MW.getf fX1_standing_6 1 rfl rfl ?_
    refine MW.icmp_ge 33 dX1_standing_9 (by decide) (fun hc9 => absurd hc9 (show ¬ i 3 ≤ nI j by rw [hk]; exact nI_ge (by omega) (by omega))) (fun hc9 => ?_)
    refine MW.aload_n dX1_standing_12 rfl ?_
    refine MW.getf fX1_standing_13 1 rfl rfl ?_
    refine MW.iload_n dX1_standing_16 rfl ?_
    refine MW.row dX1_standing_17 (show j < 8 by omega) ?_
    refine MW.callV1 fX1_standing_18 (6 + _) (hw_pal (show j < 8 by omega)) (c_stands (show j < 8 by omega)) rfl rfl rfl rfl (Nat.le_of_ble_eq_true rfl) ?_
    refine MW.if_eq 27 dX1_standing_21 (by decide) (fun hc21 => ?_) (fun hc21 => ?_)
    · skip
      refine MW.iincj dX1_standing_27 rfl rfl rfl ?_
      refine MW.goto 4 dX1_standing_30 (by decide) ?_
      refine MW.locs (lv' := [some (.ref (q 1)), some (.int (stn (a 7) (j + 1))), some (.int (nI (j + 1)))]) ?_ (ih (j + 1) (by omega))
      first
        | rw [show stn (a 7) (j + 1) = stn (a 7) j from if_pos (Classical.byContradiction (bI_0.mp (by assumption)))]; rfl
        | rw [show stn (a 7) (j + 1) = _ from if_neg (fun z => (show ¬ bI (¬ a 7 j = -1) = 0 by assumption) (bI_0.mpr (fun y => y z)))]; rfl
    · skip
      refine MW.iinc1 dX1_standing_24 rfl rfl rfl ?_
      refine MW.iincj dX1_standing_27 rfl rfl rfl ?_
      refine MW.goto 4 dX1_standing_30 (by decide) ?_
      refine MW.locs (lv' := [some (.ref (q 1)), some (.int (stn (a 7) (j + 1))), some (.int (nI (j + 1)))]) ?_ (ih (j + 1) (by omega))
      first
        | rw [show stn (a 7) (j + 1) = stn (a 7) j from if_pos (Classical.byContradiction (bI_0.mp (by assumption)))]; rfl
        | rw [show stn (a 7) (j + 1) = _ from if_neg (fun z => (show ¬ bI (¬ a 7 j = -1) = 0 by assumption) (bI_0.mpr (fun y => y z)))]; rfl
theorem c_standing {k : Nat} (hk : i 3 = nI k) (hk8 : k ≤ 8)  : MC (En l D t b L xs) MX1_standing (d + 1) [.ref (q 1)] (hw t q i a w) mc ms (rt (some (.int (stn (a 7) k))) (hw t q i a w) mc ms) := by
  show MW _ _ _ 0 [some (.ref (q 1)), none, none] [] _ _ _ _
  refine MW.iconst (v := 0) dX1_standing_0 (by decide) ?_
  refine MW.istore_n dX1_standing_1 rfl rfl ?_
  refine MW.iconst (v := 0) dX1_standing_2 (by decide) ?_
  refine MW.istore_n dX1_standing_3 rfl rfl ?_
  exact l_standing hk hk8 k 0 (by omega)
set_option maxHeartbeats 2000000 in
theorem l_weight {k : Nat} (hk : i 3 = nI k) (hk8 : k ≤ 8)  : ∀ (r j : Nat), j + r = k → MW (En l D t b L xs) MX1_weight (d + 1) 4 [some (.ref (q 1)), some (.int (wtn (a 2) (a 7) j)), some (.int (nI j))] [] (hw t q i a w) mc ms (rt (some (.int (wtn (a 2) (a 7) k))) (hw t q i a w) mc ms) := by
  intro r
  induction r with
  | zero =>
    intro j  hj 
    refine MW.iload_n dX1_weight_4 rfl ?_
    refine MW.aload_n dX1_weight_5 rfl ?_
    refine MW.getf fX1_weight_6 1 rfl rfl ?_
    refine MW.icmp_ge 42 dX1_weight_9 (by decide) (fun hc9 => ?_) (fun hc9 => absurd (show i 3 ≤ nI j by rw [hk]; exact nI_le (by omega) (by omega)) hc9)
    refine MW.iload_n dX1_weight_42 rfl ?_
    exact MW.ireturn dX1_weight_43 rfl (rfl) (rt_e (by rw [show k = j by omega]))
  | succ r ih =>
    intro j  hj 
    have hjk : j < k := by omega
    refine MW.iload_n dX1_weight_4 rfl ?_
    refine MW.aload_n dX1_weight_5 rfl ?_
    refine MW.getf fX1_weight_6 1 rfl rfl ?_
    refine MW.icmp_ge 42 dX1_weight_9 (by decide) (fun hc9 => absurd hc9 (show ¬ i 3 ≤ nI j by rw [hk]; exact nI_ge (by omega) (by omega))) (fun hc9 => ?_)
    refine MW.aload_n dX1_weight_12 rfl ?_
    refine MW.getf fX1_weight_13 1 rfl rfl ?_
    refine MW.iload_n dX1_weight_16 rfl ?_
    refine MW.row dX1_weight_17 (show j < 8 by omega) ?_
    refine MW.callV1 fX1_weight_18 (6 + _) (hw_pal (show j < 8 by omega)) (c_stands (show j < 8 by omega)) rfl rfl rfl rfl (Nat.le_of_ble_eq_true rfl) ?_
    refine MW.if_eq 36 dX1_weight_21 (by decide) (fun hc21 => ?_) (fun hc21 => ?_)
    · skip
      refine MW.iincj dX1_weight_36 rfl rfl rfl ?_
      refine MW.goto 4 dX1_weight_39 (by decide) ?_
      refine MW.locs (lv' := [some (.ref (q 1)), some (.int (wtn (a 2) (a 7) (j + 1))), some (.int (nI (j + 1)))]) ?_ (ih (j + 1) (by omega))
      first
        | rw [show wtn (a 2) (a 7) (j + 1) = wtn (a 2) (a 7) j from if_pos (Classical.byContradiction (bI_0.mp (by assumption)))]; rfl
        | rw [show wtn (a 2) (a 7) (j + 1) = _ from if_neg (fun z => (show ¬ bI (¬ a 7 j = -1) = 0 by assumption) (bI_0.mpr (fun y => y z)))]; rfl
    · skip
      refine MW.iload_n dX1_weight_24 rfl ?_
      refine MW.aload_n dX1_weight_25 rfl ?_
      refine MW.getf fX1_weight_26 1 rfl rfl ?_
      refine MW.iload_n dX1_weight_29 rfl ?_
      refine MW.row dX1_weight_30 (show j < 8 by omega) ?_
      refine MW.pg0 fX1_weight_31 (show j < 8 by omega) ?_
      refine MW.iadd dX1_weight_34 ?_
      refine MW.istore_n dX1_weight_35 rfl rfl ?_
      refine MW.iincj dX1_weight_36 rfl rfl rfl ?_
      refine MW.goto 4 dX1_weight_39 (by decide) ?_
      refine MW.locs (lv' := [some (.ref (q 1)), some (.int (wtn (a 2) (a 7) (j + 1))), some (.int (nI (j + 1)))]) ?_ (ih (j + 1) (by omega))
      first
        | rw [show wtn (a 2) (a 7) (j + 1) = wtn (a 2) (a 7) j from if_pos (Classical.byContradiction (bI_0.mp (by assumption)))]; rfl
        | rw [show wtn (a 2) (a 7) (j + 1) = _ from if_neg (fun z => (show ¬ bI (¬ a 7 j = -1) = 0 by assumption) (bI_0.mpr (fun y => y z)))]; rfl
theorem c_weight {k : Nat} (hk : i 3 = nI k) (hk8 : k ≤ 8)  : MC (En l D t b L xs) MX1_weight (d + 1) [.ref (q 1)] (hw t q i a w) mc ms (rt (some (.int (wtn (a 2) (a 7) k))) (hw t q i a w) mc ms) := by
  show MW _ _ _ 0 [some (.ref (q 1)), none, none] [] _ _ _ _
  refine MW.iconst (v := 0) dX1_weight_0 (by decide) ?_
  refine MW.istore_n dX1_weight_1 rfl rfl ?_
  refine MW.iconst (v := 0) dX1_weight_2 (by decide) ?_
  refine MW.istore_n dX1_weight_3 rfl rfl ?_
  exact l_weight hk hk8 k 0 (by omega)
set_option maxHeartbeats 2000000 in
theorem l_onAxle {k : Nat} (hk : i 3 = nI k) (hk8 : k ≤ 8) {ax : Int32} : ∀ (r j : Nat), j + r = k → MW (En l D t b L xs) MX1_onAxle (d + 1) 4 [some (.ref (q 1)), some (.int ax), some (.int (axn (shr i ax) (a 2) (a 7) j)), some (.int (nI j))] [] (hw t q i a w) mc ms (rt (some (.int (axn (shr i ax) (a 2) (a 7) k))) (hw t q i a w) mc ms) := by
  intro r
  induction r with
  | zero =>
    intro j  hj 
    refine MW.iload_n dX1_onAxle_4 rfl ?_
    refine MW.aload_n dX1_onAxle_5 rfl ?_
    refine MW.getf fX1_onAxle_6 1 rfl rfl ?_
    refine MW.icmp_ge 59 dX1_onAxle_9 (by decide) (fun hc9 => ?_) (fun hc9 => absurd (show i 3 ≤ nI j by rw [hk]; exact nI_le (by omega) (by omega)) hc9)
    refine MW.iload_n dX1_onAxle_59 rfl ?_
    exact MW.ireturn dX1_onAxle_60 rfl (rfl) (rt_e (by rw [show k = j by omega]))
  | succ r ih =>
    intro j  hj 
    have hjk : j < k := by omega
    refine MW.iload_n dX1_onAxle_4 rfl ?_
    refine MW.aload_n dX1_onAxle_5 rfl ?_
    refine MW.getf fX1_onAxle_6 1 rfl rfl ?_
    refine MW.icmp_ge 59 dX1_onAxle_9 (by decide) (fun hc9 => absurd hc9 (show ¬ i 3 ≤ nI j by rw [hk]; exact nI_ge (by omega) (by omega))) (fun hc9 => ?_)
    refine MW.aload_n dX1_onAxle_12 rfl ?_
    refine MW.getf fX1_onAxle_13 1 rfl rfl ?_
    refine MW.iload_n dX1_onAxle_16 rfl ?_
    refine MW.row dX1_onAxle_17 (show j < 8 by omega) ?_
    refine MW.callV1 fX1_onAxle_18 (6 + _) (hw_pal (show j < 8 by omega)) (c_stands (show j < 8 by omega)) rfl rfl rfl rfl (Nat.le_of_ble_eq_true rfl) ?_
    refine MW.if_eq 53 dX1_onAxle_21 (by decide) (fun hc21 => ?_) (fun hc21 => ?_)
    · skip
      refine MW.iincj dX1_onAxle_53 rfl rfl rfl ?_
      refine MW.goto 4 dX1_onAxle_56 (by decide) ?_
      refine MW.locs (lv' := [some (.ref (q 1)), some (.int ax), some (.int (axn (shr i ax) (a 2) (a 7) (j + 1))), some (.int (nI (j + 1)))]) ?_ (ih (j + 1) (by omega))
      first
        | rw [show axn (shr i ax) (a 2) (a 7) (j + 1) = axn (shr i ax) (a 2) (a 7) j from if_pos (Classical.byContradiction (bI_0.mp (by assumption)))]; rfl
        | rw [show axn (shr i ax) (a 2) (a 7) (j + 1) = _ from if_neg (fun z => (show ¬ bI (¬ a 7 j = -1) = 0 by assumption) (bI_0.mpr (fun y => y z)))]; rfl
    · skip
      refine MW.iload_n dX1_onAxle_24 rfl ?_
      refine MW.aload_n dX1_onAxle_25 rfl ?_
      refine MW.getf fX1_onAxle_26 1 rfl rfl ?_
      refine MW.iload_n dX1_onAxle_29 rfl ?_
      refine MW.aload_n dX1_onAxle_30 rfl ?_
      refine MW.getf fX1_onAxle_31 1 rfl rfl ?_
      refine MW.iload_n dX1_onAxle_34 rfl ?_
      refine MW.row dX1_onAxle_35 (show j < 8 by omega) ?_
      refine MW.pg0 fX1_onAxle_36 (show j < 8 by omega) ?_
      refine MW.aload_n dX1_onAxle_39 rfl ?_
      refine MW.getf fX1_onAxle_40 1 rfl rfl ?_
      refine MW.iload_n dX1_onAxle_43 rfl ?_
      refine MW.row dX1_onAxle_44 (show j < 8 by omega) ?_
      refine MW.pg5 fX1_onAxle_45 (show j < 8 by omega) ?_
      refine MW.callV1 fX1_onAxle_48 5 rfl (c_share) rfl rfl rfl rfl (Nat.le_of_ble_eq_true rfl) ?_
      refine MW.iadd dX1_onAxle_51 ?_
      refine MW.istore_n dX1_onAxle_52 rfl rfl ?_
      refine MW.iincj dX1_onAxle_53 rfl rfl rfl ?_
      refine MW.goto 4 dX1_onAxle_56 (by decide) ?_
      refine MW.locs (lv' := [some (.ref (q 1)), some (.int ax), some (.int (axn (shr i ax) (a 2) (a 7) (j + 1))), some (.int (nI (j + 1)))]) ?_ (ih (j + 1) (by omega))
      first
        | rw [show axn (shr i ax) (a 2) (a 7) (j + 1) = axn (shr i ax) (a 2) (a 7) j from if_pos (Classical.byContradiction (bI_0.mp (by assumption)))]; rfl
        | rw [show axn (shr i ax) (a 2) (a 7) (j + 1) = _ from if_neg (fun z => (show ¬ bI (¬ a 7 j = -1) = 0 by assumption) (bI_0.mpr (fun y => y z)))]; rfl
theorem c_onAxle {k : Nat} (hk : i 3 = nI k) (hk8 : k ≤ 8) {ax : Int32} : MC (En l D t b L xs) MX1_onAxle (d + 1) [.ref (q 1), .int ax] (hw t q i a w) mc ms (rt (some (.int (axn (shr i ax) (a 2) (a 7) k))) (hw t q i a w) mc ms) := by
  show MW _ _ _ 0 [some (.ref (q 1)), some (.int ax), none, none] [] _ _ _ _
  refine MW.iconst (v := 0) dX1_onAxle_0 (by decide) ?_
  refine MW.istore_n dX1_onAxle_1 rfl rfl ?_
  refine MW.iconst (v := 0) dX1_onAxle_2 (by decide) ?_
  refine MW.istore_n dX1_onAxle_3 rfl rfl ?_
  exact l_onAxle hk hk8 k 0 (by omega)
end Load1
