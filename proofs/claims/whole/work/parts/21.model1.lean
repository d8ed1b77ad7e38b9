/-- the reference's share of a weight, times the span -/
def shm (i : Nat → Int32) (ax wt c : Int32) : Int32 := if ax = 1 then wt * (c - i 13) else wt * (i 14 - c)
/-- the reference's axles bear what stands -/
def brM (i : Nat → Int32) (wt wh : Nat → Int32) (k : Nat) : Prop := axn (shm i 0) wt wh k ≤ i 15 * (i 14 - i 13) ∧ axn (shm i 1) wt wh k ≤ i 16 * (i 14 - i 13)
/-- what the reference's keepsOff asks, thing by thing -/
def ko (a : Nat → Nat → Int32) (k j : Nat) (c : Int32) : Nat → Prop
  | 1 => ∃ m, m < k ∧ m ≠ j ∧ ¬ a 17 m = -1 ∧ a 17 m = c
  | 2 => a 10 c.toNatClampNeg < a 16 j
  | 3 => ¬ a 13 j = 0 ∧ a 11 c.toNatClampNeg = 0
  | 4 => ∃ m, m < k ∧ m ≠ j ∧ ¬ a 17 m = -1 ∧ ¬ a 14 j = 0 ∧ ¬ a 14 m = 0 ∧ (a 17 m = c + 1 ∨ a 17 m = c - 1)
  | 5 => ∃ m, m < k ∧ m ≠ j ∧ ¬ a 17 m = -1 ∧ (a 15 j < a 15 m ∧ c < a 17 m ∨ a 15 m < a 15 j ∧ a 17 m < c)
  | _ => False
/-- the first of r from j on that is P, else y -/
noncomputable def sfd (p : Nat → Prop) (y : Int32) : Nat → Nat → Int32
  | 0, _ => y
  | r + 1, j => cI (p j) (nI j) (sfd p y r (j + 1))
section Within
variable {E : mi_E} {h : va_W} {d mc ms : Nat}
theorem c_within {x lo hi : Int32} : MC E MX6_within d [.int x, .int lo, .int hi] h mc ms (rt (some (.int (bI (lo ≤ x ∧ x ≤ hi)))) h mc ms) := by
  show MW _ _ _ 0 [some (.int x), some (.int lo), some (.int hi)] [] _ _ _ _
  refine MW.iload_n dX6_within_0 rfl ?_
  refine MW.iload_n dX6_within_1 rfl ?_
  refine MW.icmp_lt 14 dX6_within_2 (by decide) (fun hc2 => ?_) (fun hc2 => ?_)
  · skip
    refine MW.iconst (v := 0) dX6_within_14 (by decide) ?_
    exact MW.ireturn dX6_within_15 rfl (rfl) (by first | exact rtb_t ⟨Int32.not_lt.mp hc2, Int32.not_lt.mp hc7⟩ | exact rtb_f (fun z => absurd z.1 (Int32.not_le.mpr hc2)) | exact rtb_f (fun z => absurd z.2 (Int32.not_le.mpr hc7)))
  · skip
    refine MW.iload_n dX6_within_5 rfl ?_
    refine MW.iload_n dX6_within_6 rfl ?_
    refine MW.icmp_gt 14 dX6_within_7 (by decide) (fun hc7 => ?_) (fun hc7 => ?_)
    · skip
      refine MW.iconst (v := 0) dX6_within_14 (by decide) ?_
      exact MW.ireturn dX6_within_15 rfl (rfl) (by first | exact rtb_t ⟨Int32.not_lt.mp hc2, Int32.not_lt.mp hc7⟩ | exact rtb_f (fun z => absurd z.1 (Int32.not_le.mpr hc2)) | exact rtb_f (fun z => absurd z.2 (Int32.not_le.mpr hc7)))
    · skip
      refine MW.iconst (v := 1) dX6_within_10 (by decide) ?_
      refine MW.goto 15 dX6_within_11 (by decide) ?_
      exact MW.ireturn dX6_within_15 rfl (rfl) (by first | exact rtb_t ⟨Int32.not_lt.mp hc2, Int32.not_lt.mp hc7⟩ | exact rtb_f (fun z => absurd z.1 (Int32.not_le.mpr hc2)) | exact rtb_f (fun z => absurd z.2 (Int32.not_le.mpr hc7)))
end Within
section Model1
variable {l : Launch} {D : va_G} {t : ty4} {b L : Nat} {xs : Nat → Int32} {q : Nat → Nat} {i : Nat → Int32} {a : Nat → Nat → Int32} {w : Int64} {d mc ms : Nat}
set_option maxHeartbeats 1000000 in
theorem m_thrown : MC (En l D t b L xs) MX6_thrown d [.ref (q 18)] (hw t q i a w) mc ms (rt (some (.int (i 18))) (hw t q i a w) mc ms) := by
  show MW _ _ _ 0 [some (.ref (q 18))] [] _ _ _ _
  refine MW.aload_n dX6_thrown_0 rfl ?_
  refine MW.getf fX6_thrown_1 18 rfl rfl ?_
  exact MW.ireturn dX6_thrown_4 rfl (rfl) rt_r
set_option maxHeartbeats 1000000 in
theorem m_isPallet {x : Int32} : MC (En l D t b L xs) MX6_isPallet d [.ref (q 18), .int x] (hw t q i a w) mc ms (rt (some (.int (bI (0 ≤ x ∧ x < i 17)))) (hw t q i a w) mc ms) := by
  show MW _ _ _ 0 [some (.ref (q 18)), some (.int x)] [] _ _ _ _
  refine MW.iload_n dX6_isPallet_0 rfl ?_
  refine MW.if_lt 16 dX6_isPallet_1 (by decide) (fun hc1 => ?_) (fun hc1 => ?_)
  · skip
    refine MW.iconst (v := 0) dX6_isPallet_16 (by decide) ?_
    exact MW.ireturn dX6_isPallet_17 rfl (rfl) (by first | exact rtb_t ⟨Int32.not_lt.mp hc1, Int32.not_le.mp hc9⟩ | exact rtb_f (fun z => absurd z.1 (Int32.not_le.mpr hc1)) | exact rtb_f (fun z => absurd z.2 (Int32.not_lt.mpr hc9)))
  · skip
    refine MW.iload_n dX6_isPallet_4 rfl ?_
    refine MW.aload_n dX6_isPallet_5 rfl ?_
    refine MW.getf fX6_isPallet_6 18 rfl rfl ?_
    refine MW.icmp_ge 16 dX6_isPallet_9 (by decide) (fun hc9 => ?_) (fun hc9 => ?_)
    · skip
      refine MW.iconst (v := 0) dX6_isPallet_16 (by decide) ?_
      exact MW.ireturn dX6_isPallet_17 rfl (rfl) (by first | exact rtb_t ⟨Int32.not_lt.mp hc1, Int32.not_le.mp hc9⟩ | exact rtb_f (fun z => absurd z.1 (Int32.not_le.mpr hc1)) | exact rtb_f (fun z => absurd z.2 (Int32.not_lt.mpr hc9)))
    · skip
      refine MW.iconst (v := 1) dX6_isPallet_12 (by decide) ?_
      refine MW.goto 17 dX6_isPallet_13 (by decide) ?_
      exact MW.ireturn dX6_isPallet_17 rfl (rfl) (by first | exact rtb_t ⟨Int32.not_lt.mp hc1, Int32.not_le.mp hc9⟩ | exact rtb_f (fun z => absurd z.1 (Int32.not_le.mpr hc1)) | exact rtb_f (fun z => absurd z.2 (Int32.not_lt.mpr hc9)))
set_option maxHeartbeats 2000000 in
theorem lm_standsAt {k : Nat} (hk : i 17 = nI k) (hk8 : k ≤ 8) {c : Int32} : ∀ (r j : Nat), j + r = k → sfr (fun m => a 17 m = c) r j = sfr (fun m => a 17 m = c) k 0 → MW (En l D t b L xs) MX6_standsAt d 2 [some (.ref (q 18)), some (.int c), some (.int (nI j))] [] (hw t q i a w) mc ms (rt (some (.int (sfr (fun m => a 17 m = c) k 0))) (hw t q i a w) mc ms) := by
  intro r
  induction r with
  | zero =>
    intro j hr hI
    refine MW.iload_n dX6_standsAt_2 rfl ?_
    refine MW.aload_n dX6_standsAt_3 rfl ?_
    refine MW.getf fX6_standsAt_4 18 rfl rfl ?_
    refine MW.icmp_ge 28 dX6_standsAt_7 (by decide) (fun hc7 => ?_) (fun hc7 => absurd (show i 17 ≤ nI j by rw [hk]; exact nI_le (by omega) (by omega)) hc7)
    refine MW.iconst (v := -1) dX6_standsAt_28 (by decide) ?_
    exact MW.ireturn dX6_standsAt_29 rfl (rfl) (rt_e hI.symm)
  | succ r ih =>
    intro j hr hI
    have hj : j < 8 := by omega
    refine MW.iload_n dX6_standsAt_2 rfl ?_
    refine MW.aload_n dX6_standsAt_3 rfl ?_
    refine MW.getf fX6_standsAt_4 18 rfl rfl ?_
    refine MW.icmp_ge 28 dX6_standsAt_7 (by decide) (fun hc7 => absurd hc7 (show ¬ i 17 ≤ nI j by rw [hk]; exact nI_ge (by omega) (by omega))) (fun hc7 => ?_)
    refine MW.aload_n dX6_standsAt_10 rfl ?_
    refine MW.getf fX6_standsAt_11 18 rfl rfl ?_
    refine MW.iload_n dX6_standsAt_14 rfl ?_
    refine MW.iaj dX6_standsAt_15 26 0 rfl rfl hj (by decide) ?_
    refine MW.iload_n dX6_standsAt_16 rfl ?_
    refine MW.icmp_ne 22 dX6_standsAt_17 (by decide) (fun hc17 => ?_) (fun hc17 => ?_)
    · skip
      refine MW.iincj dX6_standsAt_22 rfl rfl rfl ?_
      refine MW.goto 2 dX6_standsAt_25 (by decide) ?_
      exact ih (j + 1) (by omega) (by rw [← hI]; exact (cI_f hc17).symm)
    · skip
      refine MW.iload_n dX6_standsAt_20 rfl ?_
      exact MW.ireturn dX6_standsAt_21 rfl (rfl) (rt_e (by rw [← hI]; exact cI_t hc17))
theorem m_standsAt {k : Nat} (hk : i 17 = nI k) (hk8 : k ≤ 8) {c : Int32} : MC (En l D t b L xs) MX6_standsAt d [.ref (q 18), .int c] (hw t q i a w) mc ms (rt (some (.int (sfr (fun m => a 17 m = c) k 0))) (hw t q i a w) mc ms) := by
  show MW _ _ _ 0 [some (.ref (q 18)), some (.int c), none] [] _ _ _ _
  refine MW.iconst (v := 0) dX6_standsAt_0 (by decide) ?_
  refine MW.istore_n dX6_standsAt_1 rfl rfl ?_
  exact lm_standsAt hk hk8 k 0 (by omega) rfl
set_option maxHeartbeats 2000000 in
theorem lm_standing {k : Nat} (hk : i 17 = nI k) (hk8 : k ≤ 8)  : ∀ (r j : Nat), j + r = k → MW (En l D t b L xs) MX6_standing d 4 [some (.ref (q 18)), some (.int (stn (a 17) j)), some (.int (nI j))] [] (hw t q i a w) mc ms (rt (some (.int (stn (a 17) k))) (hw t q i a w) mc ms) := by
  intro r
  induction r with
  | zero =>
    intro j hr
    refine MW.iload_n dX6_standing_4 rfl ?_
    refine MW.aload_n dX6_standing_5 rfl ?_
    refine MW.getf fX6_standing_6 18 rfl rfl ?_
    refine MW.icmp_ge 31 dX6_standing_9 (by decide) (fun hc9 => ?_) (fun hc9 => absurd (show i 17 ≤ nI j by rw [hk]; exact nI_le (by omega) (by omega)) hc9)
    refine MW.iload_n dX6_standing_31 rfl ?_
    exact MW.ireturn dX6_standing_32 rfl (rfl) (rt_e (by rw [show k = j by omega]))
  | succ r ih =>
    intro j hr
    have hj : j < 8 := by omega
    refine MW.iload_n dX6_standing_4 rfl ?_
    refine MW.aload_n dX6_standing_5 rfl ?_
    refine MW.getf fX6_standing_6 18 rfl rfl ?_
    refine MW.icmp_ge 31 dX6_standing_9 (by decide) (fun hc9 => absurd hc9 (show ¬ i 17 ≤ nI j by rw [hk]; exact nI_ge (by omega) (by omega))) (fun hc9 => ?_)
    refine MW.aload_n dX6_standing_12 rfl ?_
    refine MW.getf fX6_standing_13 18 rfl rfl ?_
    refine MW.iload_n dX6_standing_16 rfl ?_
    refine MW.iaj dX6_standing_17 26 0 rfl rfl hj (by decide) ?_
    refine MW.iconst (v := -1) dX6_standing_18 (by decide) ?_
    refine MW.icmp_eq 25 dX6_standing_19 (by decide) (fun hc19 => ?_) (fun hc19 => ?_)
    · skip
      refine MW.iincj dX6_standing_25 rfl rfl rfl ?_
      refine MW.goto 4 dX6_standing_28 (by decide) ?_
      refine MW.locs (lv' := [some (.ref (q 18)), some (.int (stn (a 17) (j + 1))), some (.int (nI (j + 1)))]) ?_ (ih (j + 1) (by omega))
      first
        | rw [show stn (a 17) (j + 1) = stn (a 17) j from if_pos hc19]; rfl
        | rw [show stn (a 17) (j + 1) = _ from if_neg hc19]; rfl
    · skip
      refine MW.iinc1 dX6_standing_22 rfl rfl rfl ?_
      refine MW.iincj dX6_standing_25 rfl rfl rfl ?_
      refine MW.goto 4 dX6_standing_28 (by decide) ?_
      refine MW.locs (lv' := [some (.ref (q 18)), some (.int (stn (a 17) (j + 1))), some (.int (nI (j + 1)))]) ?_ (ih (j + 1) (by omega))
      first
        | rw [show stn (a 17) (j + 1) = stn (a 17) j from if_pos hc19]; rfl
        | rw [show stn (a 17) (j + 1) = _ from if_neg hc19]; rfl
theorem m_standing {k : Nat} (hk : i 17 = nI k) (hk8 : k ≤ 8)  : MC (En l D t b L xs) MX6_standing d [.ref (q 18)] (hw t q i a w) mc ms (rt (some (.int (stn (a 17) k))) (hw t q i a w) mc ms) := by
  show MW _ _ _ 0 [some (.ref (q 18)), none, none] [] _ _ _ _
  refine MW.iconst (v := 0) dX6_standing_0 (by decide) ?_
  refine MW.istore_n dX6_standing_1 rfl rfl ?_
  refine MW.iconst (v := 0) dX6_standing_2 (by decide) ?_
  refine MW.istore_n dX6_standing_3 rfl rfl ?_
  exact lm_standing hk hk8 k 0 (by omega)
set_option maxHeartbeats 2000000 in
theorem lm_standingWeight {k : Nat} (hk : i 17 = nI k) (hk8 : k ≤ 8)  : ∀ (r j : Nat), j + r = k → MW (En l D t b L xs) MX6_standingWeight d 4 [some (.ref (q 18)), some (.int (wtn (a 12) (a 17) j)), some (.int (nI j))] [] (hw t q i a w) mc ms (rt (some (.int (wtn (a 12) (a 17) k))) (hw t q i a w) mc ms) := by
  intro r
  induction r with
  | zero =>
    intro j hr
    refine MW.iload_n dX6_standingWeight_4 rfl ?_
    refine MW.aload_n dX6_standingWeight_5 rfl ?_
    refine MW.getf fX6_standingWeight_6 18 rfl rfl ?_
    refine MW.icmp_ge 37 dX6_standingWeight_9 (by decide) (fun hc9 => ?_) (fun hc9 => absurd (show i 17 ≤ nI j by rw [hk]; exact nI_le (by omega) (by omega)) hc9)
    refine MW.iload_n dX6_standingWeight_37 rfl ?_
    exact MW.ireturn dX6_standingWeight_38 rfl (rfl) (rt_e (by rw [show k = j by omega]))
  | succ r ih =>
    intro j hr
    have hj : j < 8 := by omega
    refine MW.iload_n dX6_standingWeight_4 rfl ?_
    refine MW.aload_n dX6_standingWeight_5 rfl ?_
    refine MW.getf fX6_standingWeight_6 18 rfl rfl ?_
    refine MW.icmp_ge 37 dX6_standingWeight_9 (by decide) (fun hc9 => absurd hc9 (show ¬ i 17 ≤ nI j by rw [hk]; exact nI_ge (by omega) (by omega))) (fun hc9 => ?_)
    refine MW.aload_n dX6_standingWeight_12 rfl ?_
    refine MW.getf fX6_standingWeight_13 18 rfl rfl ?_
    refine MW.iload_n dX6_standingWeight_16 rfl ?_
    refine MW.iaj dX6_standingWeight_17 26 0 rfl rfl hj (by decide) ?_
    refine MW.iconst (v := -1) dX6_standingWeight_18 (by decide) ?_
    refine MW.icmp_eq 31 dX6_standingWeight_19 (by decide) (fun hc19 => ?_) (fun hc19 => ?_)
    · skip
      refine MW.iincj dX6_standingWeight_31 rfl rfl rfl ?_
      refine MW.goto 4 dX6_standingWeight_34 (by decide) ?_
      refine MW.locs (lv' := [some (.ref (q 18)), some (.int (wtn (a 12) (a 17) (j + 1))), some (.int (nI (j + 1)))]) ?_ (ih (j + 1) (by omega))
      first
        | rw [show wtn (a 12) (a 17) (j + 1) = wtn (a 12) (a 17) j from if_pos hc19]; rfl
        | rw [show wtn (a 12) (a 17) (j + 1) = _ from if_neg hc19]; rfl
    · skip
      refine MW.iload_n dX6_standingWeight_22 rfl ?_
      refine MW.aload_n dX6_standingWeight_23 rfl ?_
      refine MW.getf fX6_standingWeight_24 18 rfl rfl ?_
      refine MW.iload_n dX6_standingWeight_27 rfl ?_
      refine MW.iaj dX6_standingWeight_28 21 0 rfl rfl hj (by decide) ?_
      refine MW.iadd dX6_standingWeight_29 ?_
      refine MW.istore_n dX6_standingWeight_30 rfl rfl ?_
      refine MW.iincj dX6_standingWeight_31 rfl rfl rfl ?_
      refine MW.goto 4 dX6_standingWeight_34 (by decide) ?_
      refine MW.locs (lv' := [some (.ref (q 18)), some (.int (wtn (a 12) (a 17) (j + 1))), some (.int (nI (j + 1)))]) ?_ (ih (j + 1) (by omega))
      first
        | rw [show wtn (a 12) (a 17) (j + 1) = wtn (a 12) (a 17) j from if_pos hc19]; rfl
        | rw [show wtn (a 12) (a 17) (j + 1) = _ from if_neg hc19]; rfl
theorem m_standingWeight {k : Nat} (hk : i 17 = nI k) (hk8 : k ≤ 8)  : MC (En l D t b L xs) MX6_standingWeight d [.ref (q 18)] (hw t q i a w) mc ms (rt (some (.int (wtn (a 12) (a 17) k))) (hw t q i a w) mc ms) := by
  show MW _ _ _ 0 [some (.ref (q 18)), none, none] [] _ _ _ _
  refine MW.iconst (v := 0) dX6_standingWeight_0 (by decide) ?_
  refine MW.istore_n dX6_standingWeight_1 rfl rfl ?_
  refine MW.iconst (v := 0) dX6_standingWeight_2 (by decide) ?_
  refine MW.istore_n dX6_standingWeight_3 rfl rfl ?_
  exact lm_standingWeight hk hk8 k 0 (by omega)
set_option maxHeartbeats 2000000 in
theorem lm_load {k : Nat} (hk : i 17 = nI k) (hk8 : k ≤ 8) {ax : Int32} : ∀ (r j : Nat), j + r = k → MW (En l D t b L xs) MX6_load d 4 [some (.ref (q 18)), some (.int ax), some (.int (axn (shm i ax) (a 12) (a 17) j)), some (.int (nI j))] [] (hw t q i a w) mc ms (rt (some (.int (axn (shm i ax) (a 12) (a 17) k))) (hw t q i a w) mc ms) := by
  intro r
  induction r with
  | zero =>
    intro j hr
    refine MW.iload_n dX6_load_4 rfl ?_
    refine MW.aload_n dX6_load_5 rfl ?_
    refine MW.getf fX6_load_6 18 rfl rfl ?_
    refine MW.icmp_ge 68 dX6_load_9 (by decide) (fun hc9 => ?_) (fun hc9 => absurd (show i 17 ≤ nI j by rw [hk]; exact nI_le (by omega) (by omega)) hc9)
    refine MW.iload_n dX6_load_68 rfl ?_
    exact MW.ireturn dX6_load_69 rfl (rfl) (rt_e (by rw [show k = j by omega]))
  | succ r ih =>
    intro j hr
    have hj : j < 8 := by omega
    refine MW.iload_n dX6_load_4 rfl ?_
    refine MW.aload_n dX6_load_5 rfl ?_
    refine MW.getf fX6_load_6 18 rfl rfl ?_
    refine MW.icmp_ge 68 dX6_load_9 (by decide) (fun hc9 => absurd hc9 (show ¬ i 17 ≤ nI j by rw [hk]; exact nI_ge (by omega) (by omega))) (fun hc9 => ?_)
    refine MW.aload_n dX6_load_12 rfl ?_
    refine MW.getf fX6_load_13 18 rfl rfl ?_
    refine MW.iload_n dX6_load_16 rfl ?_
    refine MW.iaj dX6_load_17 26 0 rfl rfl hj (by decide) ?_
    refine MW.iconst (v := -1) dX6_load_18 (by decide) ?_
    refine MW.icmp_eq 62 dX6_load_19 (by decide) (fun hc19 => ?_) (fun hc19 => ?_)
    · skip
      refine MW.iincj dX6_load_62 rfl rfl rfl ?_
      refine MW.goto 4 dX6_load_65 (by decide) ?_
      refine MW.locs (lv' := [some (.ref (q 18)), some (.int ax), some (.int (axn (shm i ax) (a 12) (a 17) (j + 1))), some (.int (nI (j + 1)))]) ?_ (ih (j + 1) (by omega))
      first
        | rw [show axn (shm i ax) (a 12) (a 17) (j + 1) = axn (shm i ax) (a 12) (a 17) j from if_pos hc19]; rfl
        | rw [show axn (shm i ax) (a 12) (a 17) (j + 1) = _ from if_neg hc19, show shm i ax (a 12 j) (a 17 j) = _ from if_neg hc31]; rfl
        | rw [show axn (shm i ax) (a 12) (a 17) (j + 1) = _ from if_neg hc19, show shm i ax (a 12 j) (a 17 j) = _ from if_pos hc31]; rfl
    · skip
      refine MW.iload_n dX6_load_22 rfl ?_
      refine MW.aload_n dX6_load_23 rfl ?_
      refine MW.getf fX6_load_24 18 rfl rfl ?_
      refine MW.iload_n dX6_load_27 rfl ?_
      refine MW.iaj dX6_load_28 21 0 rfl rfl hj (by decide) ?_
      refine MW.iload_n dX6_load_29 rfl ?_
      refine MW.iconst (v := 1) dX6_load_30 (by decide) ?_
      refine MW.icmp_ne 48 dX6_load_31 (by decide) (fun hc31 => ?_) (fun hc31 => ?_)
      · skip
        refine MW.aload_n dX6_load_48 rfl ?_
        refine MW.getf fX6_load_49 18 rfl rfl ?_
        refine MW.aload_n dX6_load_52 rfl ?_
        refine MW.getf fX6_load_53 18 rfl rfl ?_
        refine MW.iload_n dX6_load_56 rfl ?_
        refine MW.iaj dX6_load_57 26 0 rfl rfl hj (by decide) ?_
        refine MW.isub dX6_load_58 ?_
        refine MW.imul dX6_load_59 ?_
        refine MW.iadd dX6_load_60 ?_
        refine MW.istore_n dX6_load_61 rfl rfl ?_
        refine MW.iincj dX6_load_62 rfl rfl rfl ?_
        refine MW.goto 4 dX6_load_65 (by decide) ?_
        refine MW.locs (lv' := [some (.ref (q 18)), some (.int ax), some (.int (axn (shm i ax) (a 12) (a 17) (j + 1))), some (.int (nI (j + 1)))]) ?_ (ih (j + 1) (by omega))
        first
          | rw [show axn (shm i ax) (a 12) (a 17) (j + 1) = axn (shm i ax) (a 12) (a 17) j from if_pos hc19]; rfl
          | rw [show axn (shm i ax) (a 12) (a 17) (j + 1) = _ from if_neg hc19, show shm i ax (a 12 j) (a 17 j) = _ from if_neg hc31]; rfl
          | rw [show axn (shm i ax) (a 12) (a 17) (j + 1) = _ from if_neg hc19, show shm i ax (a 12 j) (a 17 j) = _ from if_pos hc31]; rfl
      · skip
        refine MW.aload_n dX6_load_34 rfl ?_
        refine MW.getf fX6_load_35 18 rfl rfl ?_
        refine MW.iload_n dX6_load_38 rfl ?_
        refine MW.iaj dX6_load_39 26 0 rfl rfl hj (by decide) ?_
        refine MW.aload_n dX6_load_40 rfl ?_
        refine MW.getf fX6_load_41 18 rfl rfl ?_
        refine MW.isub dX6_load_44 ?_
        refine MW.goto 59 dX6_load_45 (by decide) ?_
        refine MW.imul dX6_load_59 ?_
        refine MW.iadd dX6_load_60 ?_
        refine MW.istore_n dX6_load_61 rfl rfl ?_
        refine MW.iincj dX6_load_62 rfl rfl rfl ?_
        refine MW.goto 4 dX6_load_65 (by decide) ?_
        refine MW.locs (lv' := [some (.ref (q 18)), some (.int ax), some (.int (axn (shm i ax) (a 12) (a 17) (j + 1))), some (.int (nI (j + 1)))]) ?_ (ih (j + 1) (by omega))
        first
          | rw [show axn (shm i ax) (a 12) (a 17) (j + 1) = axn (shm i ax) (a 12) (a 17) j from if_pos hc19]; rfl
          | rw [show axn (shm i ax) (a 12) (a 17) (j + 1) = _ from if_neg hc19, show shm i ax (a 12 j) (a 17 j) = _ from if_neg hc31]; rfl
          | rw [show axn (shm i ax) (a 12) (a 17) (j + 1) = _ from if_neg hc19, show shm i ax (a 12 j) (a 17 j) = _ from if_pos hc31]; rfl
theorem m_load {k : Nat} (hk : i 17 = nI k) (hk8 : k ≤ 8) {ax : Int32} : MC (En l D t b L xs) MX6_load d [.ref (q 18), .int ax] (hw t q i a w) mc ms (rt (some (.int (axn (shm i ax) (a 12) (a 17) k))) (hw t q i a w) mc ms) := by
  show MW _ _ _ 0 [some (.ref (q 18)), some (.int ax), none, none] [] _ _ _ _
  refine MW.iconst (v := 0) dX6_load_0 (by decide) ?_
  refine MW.istore_n dX6_load_1 rfl rfl ?_
  refine MW.iconst (v := 0) dX6_load_2 (by decide) ?_
  refine MW.istore_n dX6_load_3 rfl rfl ?_
  exact lm_load hk hk8 k 0 (by omega)
set_option maxHeartbeats 1000000 in
theorem m_axlesBear {k : Nat} (hk : i 17 = nI k) (hk8 : k ≤ 8) : MC (En l D t b L xs) MX6_axlesBear (d + 1) [.ref (q 18)] (hw t q i a w) mc ms (rt (some (.int (bI (brM i (a 12) (a 17) k)))) (hw t q i a w) mc ms) := by
  show MW _ _ _ 0 [some (.ref (q 18))] [] _ _ _ _
  refine MW.aload_n dX6_axlesBear_0 rfl ?_
  refine MW.iconst (v := 0) dX6_axlesBear_1 (by decide) ?_
  refine MW.callV1 fX6_axlesBear_2 18 rfl (m_load hk hk8) rfl rfl rfl rfl (Nat.le_of_ble_eq_true rfl) ?_
  refine MW.aload_n dX6_axlesBear_5 rfl ?_
  refine MW.getf fX6_axlesBear_6 18 rfl rfl ?_
  refine MW.aload_n dX6_axlesBear_9 rfl ?_
  refine MW.getf fX6_axlesBear_10 18 rfl rfl ?_
  refine MW.aload_n dX6_axlesBear_13 rfl ?_
  refine MW.getf fX6_axlesBear_14 18 rfl rfl ?_
  refine MW.isub dX6_axlesBear_17 ?_
  refine MW.imul dX6_axlesBear_18 ?_
  refine MW.icmp_gt 48 dX6_axlesBear_19 (by decide) (fun hc19 => ?_) (fun hc19 => ?_)
  · skip
    refine MW.iconst (v := 0) dX6_axlesBear_48 (by decide) ?_
    exact MW.ireturn dX6_axlesBear_49 rfl (rfl) (by first | exact rtb_t ⟨Int32.not_lt.mp hc19, Int32.not_lt.mp hc41⟩ | exact rtb_f (fun z => absurd z.1 (Int32.not_le.mpr hc19)) | exact rtb_f (fun z => absurd z.2 (Int32.not_le.mpr hc41)))
  · skip
    refine MW.aload_n dX6_axlesBear_22 rfl ?_
    refine MW.iconst (v := 1) dX6_axlesBear_23 (by decide) ?_
    refine MW.callV1 fX6_axlesBear_24 18 rfl (m_load hk hk8) rfl rfl rfl rfl (Nat.le_of_ble_eq_true rfl) ?_
    refine MW.aload_n dX6_axlesBear_27 rfl ?_
    refine MW.getf fX6_axlesBear_28 18 rfl rfl ?_
    refine MW.aload_n dX6_axlesBear_31 rfl ?_
    refine MW.getf fX6_axlesBear_32 18 rfl rfl ?_
    refine MW.aload_n dX6_axlesBear_35 rfl ?_
    refine MW.getf fX6_axlesBear_36 18 rfl rfl ?_
    refine MW.isub dX6_axlesBear_39 ?_
    refine MW.imul dX6_axlesBear_40 ?_
    refine MW.icmp_gt 48 dX6_axlesBear_41 (by decide) (fun hc41 => ?_) (fun hc41 => ?_)
    · skip
      refine MW.iconst (v := 0) dX6_axlesBear_48 (by decide) ?_
      exact MW.ireturn dX6_axlesBear_49 rfl (rfl) (by first | exact rtb_t ⟨Int32.not_lt.mp hc19, Int32.not_lt.mp hc41⟩ | exact rtb_f (fun z => absurd z.1 (Int32.not_le.mpr hc19)) | exact rtb_f (fun z => absurd z.2 (Int32.not_le.mpr hc41)))
    · skip
      refine MW.iconst (v := 1) dX6_axlesBear_44 (by decide) ?_
      refine MW.goto 49 dX6_axlesBear_45 (by decide) ?_
      exact MW.ireturn dX6_axlesBear_49 rfl (rfl) (by first | exact rtb_t ⟨Int32.not_lt.mp hc19, Int32.not_lt.mp hc41⟩ | exact rtb_f (fun z => absurd z.1 (Int32.not_le.mpr hc19)) | exact rtb_f (fun z => absurd z.2 (Int32.not_le.mpr hc41)))
theorem m_ko2 {k j : Nat} (hj : j < 8) {m : Nat} (hm : m < 12) : MC (En l D t b L xs) MX6_keepsOff d [.ref (q 18), .int 2, .int (nI j), .int (nI m)] (hw t q i a w) mc ms (rt (some (.int (bI (ko a k j (nI m) 2)))) (hw t q i a w) mc ms) := by
  show MW _ _ _ 0 [some (.ref (q 18)), some (.int 2), some (.int (nI j)), some (.int (nI m)), none, none] [] _ _ _ _
  refine MW.iload_n dX6_keepsOff_0 rfl ?_
  refine MW.iconst (v := 2) dX6_keepsOff_1 (by decide) ?_
  refine MW.icmp_ne 26 dX6_keepsOff_2 (by decide) (fun hc2 => absurd rfl hc2) (fun hc2 => ?_)
  refine MW.aload_n dX6_keepsOff_5 rfl ?_
  refine MW.getf fX6_keepsOff_6 18 rfl rfl ?_
  refine MW.iload_n dX6_keepsOff_9 rfl ?_
  refine MW.iaj dX6_keepsOff_10 19 0 rfl rfl hm (by decide) ?_
  refine MW.aload_n dX6_keepsOff_11 rfl ?_
  refine MW.getf fX6_keepsOff_12 18 rfl rfl ?_
  refine MW.iload_n dX6_keepsOff_15 rfl ?_
  refine MW.iaj dX6_keepsOff_16 25 0 rfl rfl hj (by decide) ?_
  refine MW.icmp_ge 24 dX6_keepsOff_17 (by decide) (fun hc17 => ?_) (fun hc17 => ?_)
  · skip
    refine MW.iconst (v := 0) dX6_keepsOff_24 (by decide) ?_
    exact MW.ireturn dX6_keepsOff_25 rfl (rfl) (by unfold ko; rw [(show (nI m).toNatClampNeg = m from nI_clamp (by omega))]; first | exact rtb_t (Int32.not_le.mp hc17) | exact rtb_f (Int32.not_lt.mpr hc17))
  · skip
    refine MW.iconst (v := 1) dX6_keepsOff_20 (by decide) ?_
    refine MW.goto 25 dX6_keepsOff_21 (by decide) ?_
    exact MW.ireturn dX6_keepsOff_25 rfl (rfl) (by unfold ko; rw [(show (nI m).toNatClampNeg = m from nI_clamp (by omega))]; first | exact rtb_t (Int32.not_le.mp hc17) | exact rtb_f (Int32.not_lt.mpr hc17))
theorem m_ko3 {k j : Nat} (hj : j < 8) {m : Nat} (hm : m < 12) : MC (En l D t b L xs) MX6_keepsOff d [.ref (q 18), .int 3, .int (nI j), .int (nI m)] (hw t q i a w) mc ms (rt (some (.int (bI (ko a k j (nI m) 3)))) (hw t q i a w) mc ms) := by
  show MW _ _ _ 0 [some (.ref (q 18)), some (.int 3), some (.int (nI j)), some (.int (nI m)), none, none] [] _ _ _ _
  refine MW.iload_n dX6_keepsOff_0 rfl ?_
  refine MW.iconst (v := 2) dX6_keepsOff_1 (by decide) ?_
  refine MW.icmp_ne 26 dX6_keepsOff_2 (by decide) (fun hc2 => ?_) (fun hc2 => absurd hc2 (by decide))
  refine MW.iload_n dX6_keepsOff_26 rfl ?_
  refine MW.iconst (v := 3) dX6_keepsOff_27 (by decide) ?_
  refine MW.icmp_ne 55 dX6_keepsOff_28 (by decide) (fun hc28 => absurd rfl hc28) (fun hc28 => ?_)
  refine MW.aload_n dX6_keepsOff_31 rfl ?_
  refine MW.getf fX6_keepsOff_32 18 rfl rfl ?_
  refine MW.iload_n dX6_keepsOff_35 rfl ?_
  refine MW.zaj dX6_keepsOff_36 22 1 rfl rfl hj (by decide) ?_
  refine MW.if_eq 53 dX6_keepsOff_37 (by decide) (fun hc37 => ?_) (fun hc37 => ?_)
  · skip
    refine MW.iconst (v := 0) dX6_keepsOff_53 (by decide) ?_
    exact MW.ireturn dX6_keepsOff_54 rfl (rfl) (by unfold ko; rw [(show (nI m).toNatClampNeg = m from nI_clamp (by omega))]; first | exact rtb_t ⟨hc37, hc46⟩ | exact rtb_f (fun z => z.1 hc37) | exact rtb_f (fun z => hc46 z.2))
  · skip
    refine MW.aload_n dX6_keepsOff_40 rfl ?_
    refine MW.getf fX6_keepsOff_41 18 rfl rfl ?_
    refine MW.iload_n dX6_keepsOff_44 rfl ?_
    refine MW.zaj dX6_keepsOff_45 20 1 rfl rfl hm (by decide) ?_
    refine MW.if_ne 53 dX6_keepsOff_46 (by decide) (fun hc46 => ?_) (fun hc46 => ?_)
    · skip
      refine MW.iconst (v := 0) dX6_keepsOff_53 (by decide) ?_
      exact MW.ireturn dX6_keepsOff_54 rfl (rfl) (by unfold ko; rw [(show (nI m).toNatClampNeg = m from nI_clamp (by omega))]; first | exact rtb_t ⟨hc37, hc46⟩ | exact rtb_f (fun z => z.1 hc37) | exact rtb_f (fun z => hc46 z.2))
    · skip
      refine MW.iconst (v := 1) dX6_keepsOff_49 (by decide) ?_
      refine MW.goto 54 dX6_keepsOff_50 (by decide) ?_
      exact MW.ireturn dX6_keepsOff_54 rfl (rfl) (by unfold ko; rw [(show (nI m).toNatClampNeg = m from nI_clamp (by omega))]; first | exact rtb_t ⟨hc37, hc46⟩ | exact rtb_f (fun z => z.1 hc37) | exact rtb_f (fun z => hc46 z.2))
set_option maxHeartbeats 2000000 in
theorem lm_ko1 {k : Nat} (hk : i 17 = nI k) (hk8 : k ≤ 8) {j : Nat} (hj : j < 8) {c : Int32} : ∀ (r p : Nat) (z : Option Value), p + r = k → (∀ m, m < p → ¬ (m ≠ j ∧ ¬ a 17 m = -1 ∧ a 17 m = c)) → MW (En l D t b L xs) MX6_keepsOff d 58 [some (.ref (q 18)), some (.int 1), some (.int (nI j)), some (.int c), some (.int (nI p)), z] [] (hw t q i a w) mc ms (rt (some (.int (bI (ko a k j c 1)))) (hw t q i a w) mc ms) := by
  intro r
  induction r with
  | zero =>
    intro p z hr hI
    refine MW.iload dX6_keepsOff_58 rfl ?_
    refine MW.aload_n dX6_keepsOff_60 rfl ?_
    refine MW.getf fX6_keepsOff_61 18 rfl rfl ?_
    refine MW.icmp_ge 204 dX6_keepsOff_64 (by decide) (fun hc64 => ?_) (fun hc64 => absurd (show i 17 ≤ nI p by rw [hk]; exact nI_le (by omega) (by omega)) hc64)
    refine MW.iconst (v := 0) dX6_keepsOff_204 (by decide) ?_
    exact MW.ireturn dX6_keepsOff_205 rfl (rfl) (rtb_f (fun ⟨m, h1, h2⟩ => hI m (by omega) h2))
  | succ r ih =>
    intro p z hr hI
    have hp : p < 8 := by omega
    refine MW.iload dX6_keepsOff_58 rfl ?_
    refine MW.aload_n dX6_keepsOff_60 rfl ?_
    refine MW.getf fX6_keepsOff_61 18 rfl rfl ?_
    refine MW.icmp_ge 204 dX6_keepsOff_64 (by decide) (fun hc64 => absurd hc64 (show ¬ i 17 ≤ nI p by rw [hk]; exact nI_ge (by omega) (by omega))) (fun hc64 => ?_)
    refine MW.iload dX6_keepsOff_67 rfl ?_
    refine MW.iload_n dX6_keepsOff_69 rfl ?_
    refine MW.icmp_ne 77 dX6_keepsOff_70 (by decide) (fun hc70 => ?_) (fun hc70 => ?_)
    · skip
      refine MW.aload_n dX6_keepsOff_77 rfl ?_
      refine MW.getf fX6_keepsOff_78 18 rfl rfl ?_
      refine MW.iload dX6_keepsOff_81 rfl ?_
      refine MW.iaj dX6_keepsOff_83 26 0 rfl rfl hp (by decide) ?_
      refine MW.istore dX6_keepsOff_84 rfl rfl ?_
      refine MW.iload dX6_keepsOff_86 rfl ?_
      refine MW.iconst (v := -1) dX6_keepsOff_88 (by decide) ?_
      refine MW.icmp_eq 198 dX6_keepsOff_89 (by decide) (fun hc89 => ?_) (fun hc89 => ?_)
      · skip
        refine MW.iincj dX6_keepsOff_198 rfl rfl rfl ?_
        refine MW.goto 58 dX6_keepsOff_201 (by decide) ?_
        first
          | exact absurd rfl hc89
          | exact ih (p + 1) _ (by omega) (lt_s hI (fun ⟨y1, y2, y3⟩ => by first | exact y1 ((nI_eq (by omega) (by omega)).mp hc70) | exact y2 hc89 | exact hc100 y3))
      · skip
        refine MW.iload_n dX6_keepsOff_92 rfl ?_
        refine MW.iconst (v := 1) dX6_keepsOff_93 (by decide) ?_
        refine MW.icmp_ne 105 dX6_keepsOff_94 (by decide) (fun hc94 => absurd rfl hc94) (fun hc94 => ?_)
        refine MW.iload dX6_keepsOff_97 rfl ?_
        refine MW.iload_n dX6_keepsOff_99 rfl ?_
        refine MW.icmp_ne 105 dX6_keepsOff_100 (by decide) (fun hc100 => ?_) (fun hc100 => ?_)
        · skip
          refine MW.iload_n dX6_keepsOff_105 rfl ?_
          refine MW.iconst (v := 4) dX6_keepsOff_106 (by decide) ?_
          refine MW.icmp_ne 147 dX6_keepsOff_107 (by decide) (fun hc107 => ?_) (fun hc107 => absurd hc107 (by decide))
          refine MW.iload_n dX6_keepsOff_147 rfl ?_
          refine MW.iconst (v := 5) dX6_keepsOff_148 (by decide) ?_
          refine MW.icmp_ne 198 dX6_keepsOff_149 (by decide) (fun hc149 => ?_) (fun hc149 => absurd hc149 (by decide))
          refine MW.iincj dX6_keepsOff_198 rfl rfl rfl ?_
          refine MW.goto 58 dX6_keepsOff_201 (by decide) ?_
          first
            | exact absurd rfl hc89
            | exact ih (p + 1) _ (by omega) (lt_s hI (fun ⟨y1, y2, y3⟩ => by first | exact y1 ((nI_eq (by omega) (by omega)).mp hc70) | exact y2 hc89 | exact hc100 y3))
        · skip
          refine MW.iconst (v := 1) dX6_keepsOff_103 (by decide) ?_
          exact MW.ireturn dX6_keepsOff_104 rfl (rfl) (by first | exact absurd rfl hc89 | exact (rtb_t ⟨p, by omega, (fun z9 => hc70 (by rw [z9])), hc89, hc100⟩))
    · skip
      have hc89 : (-1 : Int32) = -1 := rfl
      skip
      refine MW.iconst (v := -1) dX6_keepsOff_73 (by decide) ?_
      refine MW.goto 84 dX6_keepsOff_74 (by decide) ?_
      refine MW.istore dX6_keepsOff_84 rfl rfl ?_
      refine MW.iload dX6_keepsOff_86 rfl ?_
      refine MW.iconst (v := -1) dX6_keepsOff_88 (by decide) ?_
      refine MW.icmp_eq 198 dX6_keepsOff_89 (by decide) (fun hc89 => ?_) (fun hc89 => ?_)
      · skip
        refine MW.iincj dX6_keepsOff_198 rfl rfl rfl ?_
        refine MW.goto 58 dX6_keepsOff_201 (by decide) ?_
        first
          | exact absurd rfl hc89
          | exact ih (p + 1) _ (by omega) (lt_s hI (fun ⟨y1, y2, y3⟩ => by first | exact y1 ((nI_eq (by omega) (by omega)).mp hc70) | exact y2 hc89 | exact hc100 y3))
      · skip
        refine MW.iload_n dX6_keepsOff_92 rfl ?_
        refine MW.iconst (v := 1) dX6_keepsOff_93 (by decide) ?_
        refine MW.icmp_ne 105 dX6_keepsOff_94 (by decide) (fun hc94 => absurd rfl hc94) (fun hc94 => ?_)
        refine MW.iload dX6_keepsOff_97 rfl ?_
        refine MW.iload_n dX6_keepsOff_99 rfl ?_
        refine MW.icmp_ne 105 dX6_keepsOff_100 (by decide) (fun hc100 => ?_) (fun hc100 => ?_)
        · skip
          refine MW.iload_n dX6_keepsOff_105 rfl ?_
          refine MW.iconst (v := 4) dX6_keepsOff_106 (by decide) ?_
          refine MW.icmp_ne 147 dX6_keepsOff_107 (by decide) (fun hc107 => ?_) (fun hc107 => absurd hc107 (by decide))
          refine MW.iload_n dX6_keepsOff_147 rfl ?_
          refine MW.iconst (v := 5) dX6_keepsOff_148 (by decide) ?_
          refine MW.icmp_ne 198 dX6_keepsOff_149 (by decide) (fun hc149 => ?_) (fun hc149 => absurd hc149 (by decide))
          refine MW.iincj dX6_keepsOff_198 rfl rfl rfl ?_
          refine MW.goto 58 dX6_keepsOff_201 (by decide) ?_
          first
            | exact absurd rfl hc89
            | exact ih (p + 1) _ (by omega) (lt_s hI (fun ⟨y1, y2, y3⟩ => by first | exact y1 ((nI_eq (by omega) (by omega)).mp hc70) | exact y2 hc89 | exact hc100 y3))
        · skip
          refine MW.iconst (v := 1) dX6_keepsOff_103 (by decide) ?_
          exact MW.ireturn dX6_keepsOff_104 rfl (rfl) (by first | exact absurd rfl hc89 | exact (rtb_t ⟨p, by omega, (fun z9 => hc70 (by rw [z9])), hc89, hc100⟩))
theorem m_ko1 {k : Nat} (hk : i 17 = nI k) (hk8 : k ≤ 8) {j : Nat} (hj : j < 8) {c : Int32} : MC (En l D t b L xs) MX6_keepsOff d [.ref (q 18), .int 1, .int (nI j), .int c] (hw t q i a w) mc ms (rt (some (.int (bI (ko a k j c 1)))) (hw t q i a w) mc ms) := by
  show MW _ _ _ 0 [some (.ref (q 18)), some (.int 1), some (.int (nI j)), some (.int c), none, none] [] _ _ _ _
  refine MW.iload_n dX6_keepsOff_0 rfl ?_
  refine MW.iconst (v := 2) dX6_keepsOff_1 (by decide) ?_
  refine MW.icmp_ne 26 dX6_keepsOff_2 (by decide) (fun hc2 => ?_) (fun hc2 => absurd hc2 (by decide))
  refine MW.iload_n dX6_keepsOff_26 rfl ?_
  refine MW.iconst (v := 3) dX6_keepsOff_27 (by decide) ?_
  refine MW.icmp_ne 55 dX6_keepsOff_28 (by decide) (fun hc28 => ?_) (fun hc28 => absurd hc28 (by decide))
  refine MW.iconst (v := 0) dX6_keepsOff_55 (by decide) ?_
  refine MW.istore dX6_keepsOff_56 rfl rfl ?_
  exact lm_ko1 hk hk8 hj k 0 none (by omega) (fun m h => absurd h (by omega))
set_option maxHeartbeats 2000000 in
theorem lm_ko4 {k : Nat} (hk : i 17 = nI k) (hk8 : k ≤ 8) {j : Nat} (hj : j < 8) {c : Int32} : ∀ (r p : Nat) (z : Option Value), p + r = k → (∀ m, m < p → ¬ (m ≠ j ∧ ¬ a 17 m = -1 ∧ ¬ a 14 j = 0 ∧ ¬ a 14 m = 0 ∧ (a 17 m = c + 1 ∨ a 17 m = c - 1))) → MW (En l D t b L xs) MX6_keepsOff d 58 [some (.ref (q 18)), some (.int 4), some (.int (nI j)), some (.int c), some (.int (nI p)), z] [] (hw t q i a w) mc ms (rt (some (.int (bI (ko a k j c 4)))) (hw t q i a w) mc ms) := by
  intro r
  induction r with
  | zero =>
    intro p z hr hI
    refine MW.iload dX6_keepsOff_58 rfl ?_
    refine MW.aload_n dX6_keepsOff_60 rfl ?_
    refine MW.getf fX6_keepsOff_61 18 rfl rfl ?_
    refine MW.icmp_ge 204 dX6_keepsOff_64 (by decide) (fun hc64 => ?_) (fun hc64 => absurd (show i 17 ≤ nI p by rw [hk]; exact nI_le (by omega) (by omega)) hc64)
    refine MW.iconst (v := 0) dX6_keepsOff_204 (by decide) ?_
    exact MW.ireturn dX6_keepsOff_205 rfl (rfl) (rtb_f (fun ⟨m, h1, h2⟩ => hI m (by omega) h2))
  | succ r ih =>
    intro p z hr hI
    have hp : p < 8 := by omega
    refine MW.iload dX6_keepsOff_58 rfl ?_
    refine MW.aload_n dX6_keepsOff_60 rfl ?_
    refine MW.getf fX6_keepsOff_61 18 rfl rfl ?_
    refine MW.icmp_ge 204 dX6_keepsOff_64 (by decide) (fun hc64 => absurd hc64 (show ¬ i 17 ≤ nI p by rw [hk]; exact nI_ge (by omega) (by omega))) (fun hc64 => ?_)
    refine MW.iload dX6_keepsOff_67 rfl ?_
    refine MW.iload_n dX6_keepsOff_69 rfl ?_
    refine MW.icmp_ne 77 dX6_keepsOff_70 (by decide) (fun hc70 => ?_) (fun hc70 => ?_)
    · skip
      refine MW.aload_n dX6_keepsOff_77 rfl ?_
      refine MW.getf fX6_keepsOff_78 18 rfl rfl ?_
      refine MW.iload dX6_keepsOff_81 rfl ?_
      refine MW.iaj dX6_keepsOff_83 26 0 rfl rfl hp (by decide) ?_
      refine MW.istore dX6_keepsOff_84 rfl rfl ?_
      refine MW.iload dX6_keepsOff_86 rfl ?_
      refine MW.iconst (v := -1) dX6_keepsOff_88 (by decide) ?_
      refine MW.icmp_eq 198 dX6_keepsOff_89 (by decide) (fun hc89 => ?_) (fun hc89 => ?_)
      · skip
        refine MW.iincj dX6_keepsOff_198 rfl rfl rfl ?_
        refine MW.goto 58 dX6_keepsOff_201 (by decide) ?_
        first
          | exact absurd rfl hc89
          | exact ih (p + 1) _ (by omega) (lt_s hI (fun ⟨y1, y2, y3, y4, y5⟩ => by first | exact y1 ((nI_eq (by omega) (by omega)).mp hc70) | exact y2 hc89 | exact y3 hc116 | exact y4 hc126 | exact y5.elim hc134 hc142))
      · skip
        refine MW.iload_n dX6_keepsOff_92 rfl ?_
        refine MW.iconst (v := 1) dX6_keepsOff_93 (by decide) ?_
        refine MW.icmp_ne 105 dX6_keepsOff_94 (by decide) (fun hc94 => ?_) (fun hc94 => absurd hc94 (by decide))
        refine MW.iload_n dX6_keepsOff_105 rfl ?_
        refine MW.iconst (v := 4) dX6_keepsOff_106 (by decide) ?_
        refine MW.icmp_ne 147 dX6_keepsOff_107 (by decide) (fun hc107 => absurd rfl hc107) (fun hc107 => ?_)
        refine MW.aload_n dX6_keepsOff_110 rfl ?_
        refine MW.getf fX6_keepsOff_111 18 rfl rfl ?_
        refine MW.iload_n dX6_keepsOff_114 rfl ?_
        refine MW.zaj dX6_keepsOff_115 23 1 rfl rfl hj (by decide) ?_
        refine MW.if_eq 147 dX6_keepsOff_116 (by decide) (fun hc116 => ?_) (fun hc116 => ?_)
        · skip
          refine MW.iload_n dX6_keepsOff_147 rfl ?_
          refine MW.iconst (v := 5) dX6_keepsOff_148 (by decide) ?_
          refine MW.icmp_ne 198 dX6_keepsOff_149 (by decide) (fun hc149 => ?_) (fun hc149 => absurd hc149 (by decide))
          refine MW.iincj dX6_keepsOff_198 rfl rfl rfl ?_
          refine MW.goto 58 dX6_keepsOff_201 (by decide) ?_
          first
            | exact absurd rfl hc89
            | exact ih (p + 1) _ (by omega) (lt_s hI (fun ⟨y1, y2, y3, y4, y5⟩ => by first | exact y1 ((nI_eq (by omega) (by omega)).mp hc70) | exact y2 hc89 | exact y3 hc116 | exact y4 hc126 | exact y5.elim hc134 hc142))
        · skip
          refine MW.aload_n dX6_keepsOff_119 rfl ?_
          refine MW.getf fX6_keepsOff_120 18 rfl rfl ?_
          refine MW.iload dX6_keepsOff_123 rfl ?_
          refine MW.zaj dX6_keepsOff_125 23 1 rfl rfl hp (by decide) ?_
          refine MW.if_eq 147 dX6_keepsOff_126 (by decide) (fun hc126 => ?_) (fun hc126 => ?_)
          · skip
            refine MW.iload_n dX6_keepsOff_147 rfl ?_
            refine MW.iconst (v := 5) dX6_keepsOff_148 (by decide) ?_
            refine MW.icmp_ne 198 dX6_keepsOff_149 (by decide) (fun hc149 => ?_) (fun hc149 => absurd hc149 (by decide))
            refine MW.iincj dX6_keepsOff_198 rfl rfl rfl ?_
            refine MW.goto 58 dX6_keepsOff_201 (by decide) ?_
            first
              | exact absurd rfl hc89
              | exact ih (p + 1) _ (by omega) (lt_s hI (fun ⟨y1, y2, y3, y4, y5⟩ => by first | exact y1 ((nI_eq (by omega) (by omega)).mp hc70) | exact y2 hc89 | exact y3 hc116 | exact y4 hc126 | exact y5.elim hc134 hc142))
          · skip
            refine MW.iload dX6_keepsOff_129 rfl ?_
            refine MW.iload_n dX6_keepsOff_131 rfl ?_
            refine MW.iconst (v := 1) dX6_keepsOff_132 (by decide) ?_
            refine MW.iadd dX6_keepsOff_133 ?_
            refine MW.icmp_eq 145 dX6_keepsOff_134 (by decide) (fun hc134 => ?_) (fun hc134 => ?_)
            · skip
              refine MW.iconst (v := 1) dX6_keepsOff_145 (by decide) ?_
              exact MW.ireturn dX6_keepsOff_146 rfl (rfl) (by first | exact absurd rfl hc89 | exact (rtb_t ⟨p, by omega, (fun z9 => hc70 (by rw [z9])), hc89, hc116, hc126, by first | exact Or.inl hc134 | exact Or.inr hc142⟩))
            · skip
              refine MW.iload dX6_keepsOff_137 rfl ?_
              refine MW.iload_n dX6_keepsOff_139 rfl ?_
              refine MW.iconst (v := 1) dX6_keepsOff_140 (by decide) ?_
              refine MW.isub dX6_keepsOff_141 ?_
              refine MW.icmp_ne 147 dX6_keepsOff_142 (by decide) (fun hc142 => ?_) (fun hc142 => ?_)
              · skip
                refine MW.iload_n dX6_keepsOff_147 rfl ?_
                refine MW.iconst (v := 5) dX6_keepsOff_148 (by decide) ?_
                refine MW.icmp_ne 198 dX6_keepsOff_149 (by decide) (fun hc149 => ?_) (fun hc149 => absurd hc149 (by decide))
                refine MW.iincj dX6_keepsOff_198 rfl rfl rfl ?_
                refine MW.goto 58 dX6_keepsOff_201 (by decide) ?_
                first
                  | exact absurd rfl hc89
                  | exact ih (p + 1) _ (by omega) (lt_s hI (fun ⟨y1, y2, y3, y4, y5⟩ => by first | exact y1 ((nI_eq (by omega) (by omega)).mp hc70) | exact y2 hc89 | exact y3 hc116 | exact y4 hc126 | exact y5.elim hc134 hc142))
              · skip
                refine MW.iconst (v := 1) dX6_keepsOff_145 (by decide) ?_
                exact MW.ireturn dX6_keepsOff_146 rfl (rfl) (by first | exact absurd rfl hc89 | exact (rtb_t ⟨p, by omega, (fun z9 => hc70 (by rw [z9])), hc89, hc116, hc126, by first | exact Or.inl hc134 | exact Or.inr hc142⟩))
    · skip
      have hc89 : (-1 : Int32) = -1 := rfl
      skip
      refine MW.iconst (v := -1) dX6_keepsOff_73 (by decide) ?_
      refine MW.goto 84 dX6_keepsOff_74 (by decide) ?_
      refine MW.istore dX6_keepsOff_84 rfl rfl ?_
      refine MW.iload dX6_keepsOff_86 rfl ?_
      refine MW.iconst (v := -1) dX6_keepsOff_88 (by decide) ?_
      refine MW.icmp_eq 198 dX6_keepsOff_89 (by decide) (fun hc89 => ?_) (fun hc89 => ?_)
      · skip
        refine MW.iincj dX6_keepsOff_198 rfl rfl rfl ?_
        refine MW.goto 58 dX6_keepsOff_201 (by decide) ?_
        first
          | exact absurd rfl hc89
          | exact ih (p + 1) _ (by omega) (lt_s hI (fun ⟨y1, y2, y3, y4, y5⟩ => by first | exact y1 ((nI_eq (by omega) (by omega)).mp hc70) | exact y2 hc89 | exact y3 hc116 | exact y4 hc126 | exact y5.elim hc134 hc142))
      · skip
        refine MW.iload_n dX6_keepsOff_92 rfl ?_
        refine MW.iconst (v := 1) dX6_keepsOff_93 (by decide) ?_
        refine MW.icmp_ne 105 dX6_keepsOff_94 (by decide) (fun hc94 => ?_) (fun hc94 => absurd hc94 (by decide))
        refine MW.iload_n dX6_keepsOff_105 rfl ?_
        refine MW.iconst (v := 4) dX6_keepsOff_106 (by decide) ?_
        refine MW.icmp_ne 147 dX6_keepsOff_107 (by decide) (fun hc107 => absurd rfl hc107) (fun hc107 => ?_)
        refine MW.aload_n dX6_keepsOff_110 rfl ?_
        refine MW.getf fX6_keepsOff_111 18 rfl rfl ?_
        refine MW.iload_n dX6_keepsOff_114 rfl ?_
        refine MW.zaj dX6_keepsOff_115 23 1 rfl rfl hj (by decide) ?_
        refine MW.if_eq 147 dX6_keepsOff_116 (by decide) (fun hc116 => ?_) (fun hc116 => ?_)
        · skip
          refine MW.iload_n dX6_keepsOff_147 rfl ?_
          refine MW.iconst (v := 5) dX6_keepsOff_148 (by decide) ?_
          refine MW.icmp_ne 198 dX6_keepsOff_149 (by decide) (fun hc149 => ?_) (fun hc149 => absurd hc149 (by decide))
          refine MW.iincj dX6_keepsOff_198 rfl rfl rfl ?_
          refine MW.goto 58 dX6_keepsOff_201 (by decide) ?_
          first
            | exact absurd rfl hc89
            | exact ih (p + 1) _ (by omega) (lt_s hI (fun ⟨y1, y2, y3, y4, y5⟩ => by first | exact y1 ((nI_eq (by omega) (by omega)).mp hc70) | exact y2 hc89 | exact y3 hc116 | exact y4 hc126 | exact y5.elim hc134 hc142))
        · skip
          refine MW.aload_n dX6_keepsOff_119 rfl ?_
          refine MW.getf fX6_keepsOff_120 18 rfl rfl ?_
          refine MW.iload dX6_keepsOff_123 rfl ?_
          refine MW.zaj dX6_keepsOff_125 23 1 rfl rfl hp (by decide) ?_
          refine MW.if_eq 147 dX6_keepsOff_126 (by decide) (fun hc126 => ?_) (fun hc126 => ?_)
          · skip
            refine MW.iload_n dX6_keepsOff_147 rfl ?_
            refine MW.iconst (v := 5) dX6_keepsOff_148 (by decide) ?_
            refine MW.icmp_ne 198 dX6_keepsOff_149 (by decide) (fun hc149 => ?_) (fun hc149 => absurd hc149 (by decide))
            refine MW.iincj dX6_keepsOff_198 rfl rfl rfl ?_
            refine MW.goto 58 dX6_keepsOff_201 (by decide) ?_
            first
              | exact absurd rfl hc89
              | exact ih (p + 1) _ (by omega) (lt_s hI (fun ⟨y1, y2, y3, y4, y5⟩ => by first | exact y1 ((nI_eq (by omega) (by omega)).mp hc70) | exact y2 hc89 | exact y3 hc116 | exact y4 hc126 | exact y5.elim hc134 hc142))
          · skip
            refine MW.iload dX6_keepsOff_129 rfl ?_
            refine MW.iload_n dX6_keepsOff_131 rfl ?_
            refine MW.iconst (v := 1) dX6_keepsOff_132 (by decide) ?_
            refine MW.iadd dX6_keepsOff_133 ?_
            refine MW.icmp_eq 145 dX6_keepsOff_134 (by decide) (fun hc134 => ?_) (fun hc134 => ?_)
            · skip
              refine MW.iconst (v := 1) dX6_keepsOff_145 (by decide) ?_
              exact MW.ireturn dX6_keepsOff_146 rfl (rfl) (by first | exact absurd rfl hc89 | exact (rtb_t ⟨p, by omega, (fun z9 => hc70 (by rw [z9])), hc89, hc116, hc126, by first | exact Or.inl hc134 | exact Or.inr hc142⟩))
            · skip
              refine MW.iload dX6_keepsOff_137 rfl ?_
              refine MW.iload_n dX6_keepsOff_139 rfl ?_
              refine MW.iconst (v := 1) dX6_keepsOff_140 (by decide) ?_
              refine MW.isub dX6_keepsOff_141 ?_
              refine MW.icmp_ne 147 dX6_keepsOff_142 (by decide) (fun hc142 => ?_) (fun hc142 => ?_)
              · skip
                refine MW.iload_n dX6_keepsOff_147 rfl ?_
                refine MW.iconst (v := 5) dX6_keepsOff_148 (by decide) ?_
                refine MW.icmp_ne 198 dX6_keepsOff_149 (by decide) (fun hc149 => ?_) (fun hc149 => absurd hc149 (by decide))
                refine MW.iincj dX6_keepsOff_198 rfl rfl rfl ?_
                refine MW.goto 58 dX6_keepsOff_201 (by decide) ?_
                first
                  | exact absurd rfl hc89
                  | exact ih (p + 1) _ (by omega) (lt_s hI (fun ⟨y1, y2, y3, y4, y5⟩ => by first | exact y1 ((nI_eq (by omega) (by omega)).mp hc70) | exact y2 hc89 | exact y3 hc116 | exact y4 hc126 | exact y5.elim hc134 hc142))
              · skip
                refine MW.iconst (v := 1) dX6_keepsOff_145 (by decide) ?_
                exact MW.ireturn dX6_keepsOff_146 rfl (rfl) (by first | exact absurd rfl hc89 | exact (rtb_t ⟨p, by omega, (fun z9 => hc70 (by rw [z9])), hc89, hc116, hc126, by first | exact Or.inl hc134 | exact Or.inr hc142⟩))
theorem m_ko4 {k : Nat} (hk : i 17 = nI k) (hk8 : k ≤ 8) {j : Nat} (hj : j < 8) {c : Int32} : MC (En l D t b L xs) MX6_keepsOff d [.ref (q 18), .int 4, .int (nI j), .int c] (hw t q i a w) mc ms (rt (some (.int (bI (ko a k j c 4)))) (hw t q i a w) mc ms) := by
  show MW _ _ _ 0 [some (.ref (q 18)), some (.int 4), some (.int (nI j)), some (.int c), none, none] [] _ _ _ _
  refine MW.iload_n dX6_keepsOff_0 rfl ?_
  refine MW.iconst (v := 2) dX6_keepsOff_1 (by decide) ?_
  refine MW.icmp_ne 26 dX6_keepsOff_2 (by decide) (fun hc2 => ?_) (fun hc2 => absurd hc2 (by decide))
  refine MW.iload_n dX6_keepsOff_26 rfl ?_
  refine MW.iconst (v := 3) dX6_keepsOff_27 (by decide) ?_
  refine MW.icmp_ne 55 dX6_keepsOff_28 (by decide) (fun hc28 => ?_) (fun hc28 => absurd hc28 (by decide))
  refine MW.iconst (v := 0) dX6_keepsOff_55 (by decide) ?_
  refine MW.istore dX6_keepsOff_56 rfl rfl ?_
  exact lm_ko4 hk hk8 hj k 0 none (by omega) (fun m h => absurd h (by omega))
set_option maxHeartbeats 2000000 in
theorem lm_ko5 {k : Nat} (hk : i 17 = nI k) (hk8 : k ≤ 8) {j : Nat} (hj : j < 8) {c : Int32} : ∀ (r p : Nat) (z : Option Value), p + r = k → (∀ m, m < p → ¬ (m ≠ j ∧ ¬ a 17 m = -1 ∧ (a 15 j < a 15 m ∧ c < a 17 m ∨ a 15 m < a 15 j ∧ a 17 m < c))) → MW (En l D t b L xs) MX6_keepsOff d 58 [some (.ref (q 18)), some (.int 5), some (.int (nI j)), some (.int c), some (.int (nI p)), z] [] (hw t q i a w) mc ms (rt (some (.int (bI (ko a k j c 5)))) (hw t q i a w) mc ms) := by
  intro r
  induction r with
  | zero =>
    intro p z hr hI
    refine MW.iload dX6_keepsOff_58 rfl ?_
    refine MW.aload_n dX6_keepsOff_60 rfl ?_
    refine MW.getf fX6_keepsOff_61 18 rfl rfl ?_
    refine MW.icmp_ge 204 dX6_keepsOff_64 (by decide) (fun hc64 => ?_) (fun hc64 => absurd (show i 17 ≤ nI p by rw [hk]; exact nI_le (by omega) (by omega)) hc64)
    refine MW.iconst (v := 0) dX6_keepsOff_204 (by decide) ?_
    exact MW.ireturn dX6_keepsOff_205 rfl (rfl) (rtb_f (fun ⟨m, h1, h2⟩ => hI m (by omega) h2))
  | succ r ih =>
    intro p z hr hI
    have hp : p < 8 := by omega
    refine MW.iload dX6_keepsOff_58 rfl ?_
    refine MW.aload_n dX6_keepsOff_60 rfl ?_
    refine MW.getf fX6_keepsOff_61 18 rfl rfl ?_
    refine MW.icmp_ge 204 dX6_keepsOff_64 (by decide) (fun hc64 => absurd hc64 (show ¬ i 17 ≤ nI p by rw [hk]; exact nI_ge (by omega) (by omega))) (fun hc64 => ?_)
    refine MW.iload dX6_keepsOff_67 rfl ?_
    refine MW.iload_n dX6_keepsOff_69 rfl ?_
    refine MW.icmp_ne 77 dX6_keepsOff_70 (by decide) (fun hc70 => ?_) (fun hc70 => ?_)
    · skip
      refine MW.aload_n dX6_keepsOff_77 rfl ?_
      refine MW.getf fX6_keepsOff_78 18 rfl rfl ?_
      refine MW.iload dX6_keepsOff_81 rfl ?_
      refine MW.iaj dX6_keepsOff_83 26 0 rfl rfl hp (by decide) ?_
      refine MW.istore dX6_keepsOff_84 rfl rfl ?_
      refine MW.iload dX6_keepsOff_86 rfl ?_
      refine MW.iconst (v := -1) dX6_keepsOff_88 (by decide) ?_
      refine MW.icmp_eq 198 dX6_keepsOff_89 (by decide) (fun hc89 => ?_) (fun hc89 => ?_)
      · skip
        refine MW.iincj dX6_keepsOff_198 rfl rfl rfl ?_
        refine MW.goto 58 dX6_keepsOff_201 (by decide) ?_
        first
          | exact absurd rfl hc89
          | exact ih (p + 1) _ (by omega) (lt_s hI (fun ⟨y1, y2, y3⟩ => by first | exact y1 ((nI_eq (by omega) (by omega)).mp hc70) | exact y2 hc89 | (rcases y3 with ⟨v1, v2⟩ | ⟨v1, v2⟩ <;> first | exact absurd v1 (Int32.not_lt.mpr hc165) | exact absurd v2 hc171 | exact absurd v1 (Int32.not_lt.mpr hc187) | exact absurd v2 (Int32.not_lt.mpr hc193))))
      · skip
        refine MW.iload_n dX6_keepsOff_92 rfl ?_
        refine MW.iconst (v := 1) dX6_keepsOff_93 (by decide) ?_
        refine MW.icmp_ne 105 dX6_keepsOff_94 (by decide) (fun hc94 => ?_) (fun hc94 => absurd hc94 (by decide))
        refine MW.iload_n dX6_keepsOff_105 rfl ?_
        refine MW.iconst (v := 4) dX6_keepsOff_106 (by decide) ?_
        refine MW.icmp_ne 147 dX6_keepsOff_107 (by decide) (fun hc107 => ?_) (fun hc107 => absurd hc107 (by decide))
        refine MW.iload_n dX6_keepsOff_147 rfl ?_
        refine MW.iconst (v := 5) dX6_keepsOff_148 (by decide) ?_
        refine MW.icmp_ne 198 dX6_keepsOff_149 (by decide) (fun hc149 => absurd rfl hc149) (fun hc149 => ?_)
        refine MW.aload_n dX6_keepsOff_152 rfl ?_
        refine MW.getf fX6_keepsOff_153 18 rfl rfl ?_
        refine MW.iload_n dX6_keepsOff_156 rfl ?_
        refine MW.iaj dX6_keepsOff_157 24 0 rfl rfl hj (by decide) ?_
        refine MW.aload_n dX6_keepsOff_158 rfl ?_
        refine MW.getf fX6_keepsOff_159 18 rfl rfl ?_
        refine MW.iload dX6_keepsOff_162 rfl ?_
        refine MW.iaj dX6_keepsOff_164 24 0 rfl rfl hp (by decide) ?_
        refine MW.icmp_ge 174 dX6_keepsOff_165 (by decide) (fun hc165 => ?_) (fun hc165 => ?_)
        · skip
          refine MW.aload_n dX6_keepsOff_174 rfl ?_
          refine MW.getf fX6_keepsOff_175 18 rfl rfl ?_
          refine MW.iload_n dX6_keepsOff_178 rfl ?_
          refine MW.iaj dX6_keepsOff_179 24 0 rfl rfl hj (by decide) ?_
          refine MW.aload_n dX6_keepsOff_180 rfl ?_
          refine MW.getf fX6_keepsOff_181 18 rfl rfl ?_
          refine MW.iload dX6_keepsOff_184 rfl ?_
          refine MW.iaj dX6_keepsOff_186 24 0 rfl rfl hp (by decide) ?_
          refine MW.icmp_le 198 dX6_keepsOff_187 (by decide) (fun hc187 => ?_) (fun hc187 => ?_)
          · skip
            refine MW.iincj dX6_keepsOff_198 rfl rfl rfl ?_
            refine MW.goto 58 dX6_keepsOff_201 (by decide) ?_
            first
              | exact absurd rfl hc89
              | exact ih (p + 1) _ (by omega) (lt_s hI (fun ⟨y1, y2, y3⟩ => by first | exact y1 ((nI_eq (by omega) (by omega)).mp hc70) | exact y2 hc89 | (rcases y3 with ⟨v1, v2⟩ | ⟨v1, v2⟩ <;> first | exact absurd v1 (Int32.not_lt.mpr hc165) | exact absurd v2 hc171 | exact absurd v1 (Int32.not_lt.mpr hc187) | exact absurd v2 (Int32.not_lt.mpr hc193))))
          · skip
            refine MW.iload_n dX6_keepsOff_190 rfl ?_
            refine MW.iload dX6_keepsOff_191 rfl ?_
            refine MW.icmp_le 198 dX6_keepsOff_193 (by decide) (fun hc193 => ?_) (fun hc193 => ?_)
            · skip
              refine MW.iincj dX6_keepsOff_198 rfl rfl rfl ?_
              refine MW.goto 58 dX6_keepsOff_201 (by decide) ?_
              first
                | exact absurd rfl hc89
                | exact ih (p + 1) _ (by omega) (lt_s hI (fun ⟨y1, y2, y3⟩ => by first | exact y1 ((nI_eq (by omega) (by omega)).mp hc70) | exact y2 hc89 | (rcases y3 with ⟨v1, v2⟩ | ⟨v1, v2⟩ <;> first | exact absurd v1 (Int32.not_lt.mpr hc165) | exact absurd v2 hc171 | exact absurd v1 (Int32.not_lt.mpr hc187) | exact absurd v2 (Int32.not_lt.mpr hc193))))
            · skip
              refine MW.iconst (v := 1) dX6_keepsOff_196 (by decide) ?_
              exact MW.ireturn dX6_keepsOff_197 rfl (rfl) (by first | exact absurd rfl hc89 | exact (rtb_t ⟨p, by omega, (fun z9 => hc70 (by rw [z9])), hc89, by first | exact Or.inl ⟨Int32.not_le.mp hc165, hc171⟩ | exact Or.inr ⟨Int32.not_le.mp hc187, Int32.not_le.mp hc193⟩⟩))
        · skip
          refine MW.iload_n dX6_keepsOff_168 rfl ?_
          refine MW.iload dX6_keepsOff_169 rfl ?_
          refine MW.icmp_lt 196 dX6_keepsOff_171 (by decide) (fun hc171 => ?_) (fun hc171 => ?_)
          · skip
            refine MW.iconst (v := 1) dX6_keepsOff_196 (by decide) ?_
            exact MW.ireturn dX6_keepsOff_197 rfl (rfl) (by first | exact absurd rfl hc89 | exact (rtb_t ⟨p, by omega, (fun z9 => hc70 (by rw [z9])), hc89, by first | exact Or.inl ⟨Int32.not_le.mp hc165, hc171⟩ | exact Or.inr ⟨Int32.not_le.mp hc187, Int32.not_le.mp hc193⟩⟩))
          · skip
            refine MW.aload_n dX6_keepsOff_174 rfl ?_
            refine MW.getf fX6_keepsOff_175 18 rfl rfl ?_
            refine MW.iload_n dX6_keepsOff_178 rfl ?_
            refine MW.iaj dX6_keepsOff_179 24 0 rfl rfl hj (by decide) ?_
            refine MW.aload_n dX6_keepsOff_180 rfl ?_
            refine MW.getf fX6_keepsOff_181 18 rfl rfl ?_
            refine MW.iload dX6_keepsOff_184 rfl ?_
            refine MW.iaj dX6_keepsOff_186 24 0 rfl rfl hp (by decide) ?_
            refine MW.icmp_le 198 dX6_keepsOff_187 (by decide) (fun hc187 => ?_) (fun hc187 => ?_)
            · skip
              refine MW.iincj dX6_keepsOff_198 rfl rfl rfl ?_
              refine MW.goto 58 dX6_keepsOff_201 (by decide) ?_
              first
                | exact absurd rfl hc89
                | exact ih (p + 1) _ (by omega) (lt_s hI (fun ⟨y1, y2, y3⟩ => by first | exact y1 ((nI_eq (by omega) (by omega)).mp hc70) | exact y2 hc89 | (rcases y3 with ⟨v1, v2⟩ | ⟨v1, v2⟩ <;> first | exact absurd v1 (Int32.not_lt.mpr hc165) | exact absurd v2 hc171 | exact absurd v1 (Int32.not_lt.mpr hc187) | exact absurd v2 (Int32.not_lt.mpr hc193))))
            · skip
              refine MW.iload_n dX6_keepsOff_190 rfl ?_
              refine MW.iload dX6_keepsOff_191 rfl ?_
              refine MW.icmp_le 198 dX6_keepsOff_193 (by decide) (fun hc193 => ?_) (fun hc193 => ?_)
              · skip
                refine MW.iincj dX6_keepsOff_198 rfl rfl rfl ?_
                refine MW.goto 58 dX6_keepsOff_201 (by decide) ?_
                first
                  | exact absurd rfl hc89
                  | exact ih (p + 1) _ (by omega) (lt_s hI (fun ⟨y1, y2, y3⟩ => by first | exact y1 ((nI_eq (by omega) (by omega)).mp hc70) | exact y2 hc89 | (rcases y3 with ⟨v1, v2⟩ | ⟨v1, v2⟩ <;> first | exact absurd v1 (Int32.not_lt.mpr hc165) | exact absurd v2 hc171 | exact absurd v1 (Int32.not_lt.mpr hc187) | exact absurd v2 (Int32.not_lt.mpr hc193))))
              · skip
                refine MW.iconst (v := 1) dX6_keepsOff_196 (by decide) ?_
                exact MW.ireturn dX6_keepsOff_197 rfl (rfl) (by first | exact absurd rfl hc89 | exact (rtb_t ⟨p, by omega, (fun z9 => hc70 (by rw [z9])), hc89, by first | exact Or.inl ⟨Int32.not_le.mp hc165, hc171⟩ | exact Or.inr ⟨Int32.not_le.mp hc187, Int32.not_le.mp hc193⟩⟩))
    · skip
      have hc89 : (-1 : Int32) = -1 := rfl
      skip
      refine MW.iconst (v := -1) dX6_keepsOff_73 (by decide) ?_
      refine MW.goto 84 dX6_keepsOff_74 (by decide) ?_
      refine MW.istore dX6_keepsOff_84 rfl rfl ?_
      refine MW.iload dX6_keepsOff_86 rfl ?_
      refine MW.iconst (v := -1) dX6_keepsOff_88 (by decide) ?_
      refine MW.icmp_eq 198 dX6_keepsOff_89 (by decide) (fun hc89 => ?_) (fun hc89 => ?_)
      · skip
        refine MW.iincj dX6_keepsOff_198 rfl rfl rfl ?_
        refine MW.goto 58 dX6_keepsOff_201 (by decide) ?_
        first
          | exact absurd rfl hc89
          | exact ih (p + 1) _ (by omega) (lt_s hI (fun ⟨y1, y2, y3⟩ => by first | exact y1 ((nI_eq (by omega) (by omega)).mp hc70) | exact y2 hc89 | (rcases y3 with ⟨v1, v2⟩ | ⟨v1, v2⟩ <;> first | exact absurd v1 (Int32.not_lt.mpr hc165) | exact absurd v2 hc171 | exact absurd v1 (Int32.not_lt.mpr hc187) | exact absurd v2 (Int32.not_lt.mpr hc193))))
      · skip
        refine MW.iload_n dX6_keepsOff_92 rfl ?_
        refine MW.iconst (v := 1) dX6_keepsOff_93 (by decide) ?_
        refine MW.icmp_ne 105 dX6_keepsOff_94 (by decide) (fun hc94 => ?_) (fun hc94 => absurd hc94 (by decide))
        refine MW.iload_n dX6_keepsOff_105 rfl ?_
        refine MW.iconst (v := 4) dX6_keepsOff_106 (by decide) ?_
        refine MW.icmp_ne 147 dX6_keepsOff_107 (by decide) (fun hc107 => ?_) (fun hc107 => absurd hc107 (by decide))
        refine MW.iload_n dX6_keepsOff_147 rfl ?_
        refine MW.iconst (v := 5) dX6_keepsOff_148 (by decide) ?_
        refine MW.icmp_ne 198 dX6_keepsOff_149 (by decide) (fun hc149 => absurd rfl hc149) (fun hc149 => ?_)
        refine MW.aload_n dX6_keepsOff_152 rfl ?_
        refine MW.getf fX6_keepsOff_153 18 rfl rfl ?_
        refine MW.iload_n dX6_keepsOff_156 rfl ?_
        refine MW.iaj dX6_keepsOff_157 24 0 rfl rfl hj (by decide) ?_
        refine MW.aload_n dX6_keepsOff_158 rfl ?_
        refine MW.getf fX6_keepsOff_159 18 rfl rfl ?_
        refine MW.iload dX6_keepsOff_162 rfl ?_
        refine MW.iaj dX6_keepsOff_164 24 0 rfl rfl hp (by decide) ?_
        refine MW.icmp_ge 174 dX6_keepsOff_165 (by decide) (fun hc165 => ?_) (fun hc165 => ?_)
        · skip
          refine MW.aload_n dX6_keepsOff_174 rfl ?_
          refine MW.getf fX6_keepsOff_175 18 rfl rfl ?_
          refine MW.iload_n dX6_keepsOff_178 rfl ?_
          refine MW.iaj dX6_keepsOff_179 24 0 rfl rfl hj (by decide) ?_
          refine MW.aload_n dX6_keepsOff_180 rfl ?_
          refine MW.getf fX6_keepsOff_181 18 rfl rfl ?_
          refine MW.iload dX6_keepsOff_184 rfl ?_
          refine MW.iaj dX6_keepsOff_186 24 0 rfl rfl hp (by decide) ?_
          refine MW.icmp_le 198 dX6_keepsOff_187 (by decide) (fun hc187 => ?_) (fun hc187 => ?_)
          · skip
            refine MW.iincj dX6_keepsOff_198 rfl rfl rfl ?_
            refine MW.goto 58 dX6_keepsOff_201 (by decide) ?_
            first
              | exact absurd rfl hc89
              | exact ih (p + 1) _ (by omega) (lt_s hI (fun ⟨y1, y2, y3⟩ => by first | exact y1 ((nI_eq (by omega) (by omega)).mp hc70) | exact y2 hc89 | (rcases y3 with ⟨v1, v2⟩ | ⟨v1, v2⟩ <;> first | exact absurd v1 (Int32.not_lt.mpr hc165) | exact absurd v2 hc171 | exact absurd v1 (Int32.not_lt.mpr hc187) | exact absurd v2 (Int32.not_lt.mpr hc193))))
          · skip
            refine MW.iload_n dX6_keepsOff_190 rfl ?_
            refine MW.iload dX6_keepsOff_191 rfl ?_
            refine MW.icmp_le 198 dX6_keepsOff_193 (by decide) (fun hc193 => ?_) (fun hc193 => ?_)
            · skip
              refine MW.iincj dX6_keepsOff_198 rfl rfl rfl ?_
              refine MW.goto 58 dX6_keepsOff_201 (by decide) ?_
              first
                | exact absurd rfl hc89
                | exact ih (p + 1) _ (by omega) (lt_s hI (fun ⟨y1, y2, y3⟩ => by first | exact y1 ((nI_eq (by omega) (by omega)).mp hc70) | exact y2 hc89 | (rcases y3 with ⟨v1, v2⟩ | ⟨v1, v2⟩ <;> first | exact absurd v1 (Int32.not_lt.mpr hc165) | exact absurd v2 hc171 | exact absurd v1 (Int32.not_lt.mpr hc187) | exact absurd v2 (Int32.not_lt.mpr hc193))))
            · skip
              refine MW.iconst (v := 1) dX6_keepsOff_196 (by decide) ?_
              exact MW.ireturn dX6_keepsOff_197 rfl (rfl) (by first | exact absurd rfl hc89 | exact (rtb_t ⟨p, by omega, (fun z9 => hc70 (by rw [z9])), hc89, by first | exact Or.inl ⟨Int32.not_le.mp hc165, hc171⟩ | exact Or.inr ⟨Int32.not_le.mp hc187, Int32.not_le.mp hc193⟩⟩))
        · skip
          refine MW.iload_n dX6_keepsOff_168 rfl ?_
          refine MW.iload dX6_keepsOff_169 rfl ?_
          refine MW.icmp_lt 196 dX6_keepsOff_171 (by decide) (fun hc171 => ?_) (fun hc171 => ?_)
          · skip
            refine MW.iconst (v := 1) dX6_keepsOff_196 (by decide) ?_
            exact MW.ireturn dX6_keepsOff_197 rfl (rfl) (by first | exact absurd rfl hc89 | exact (rtb_t ⟨p, by omega, (fun z9 => hc70 (by rw [z9])), hc89, by first | exact Or.inl ⟨Int32.not_le.mp hc165, hc171⟩ | exact Or.inr ⟨Int32.not_le.mp hc187, Int32.not_le.mp hc193⟩⟩))
          · skip
            refine MW.aload_n dX6_keepsOff_174 rfl ?_
            refine MW.getf fX6_keepsOff_175 18 rfl rfl ?_
            refine MW.iload_n dX6_keepsOff_178 rfl ?_
            refine MW.iaj dX6_keepsOff_179 24 0 rfl rfl hj (by decide) ?_
            refine MW.aload_n dX6_keepsOff_180 rfl ?_
            refine MW.getf fX6_keepsOff_181 18 rfl rfl ?_
            refine MW.iload dX6_keepsOff_184 rfl ?_
            refine MW.iaj dX6_keepsOff_186 24 0 rfl rfl hp (by decide) ?_
            refine MW.icmp_le 198 dX6_keepsOff_187 (by decide) (fun hc187 => ?_) (fun hc187 => ?_)
            · skip
              refine MW.iincj dX6_keepsOff_198 rfl rfl rfl ?_
              refine MW.goto 58 dX6_keepsOff_201 (by decide) ?_
              first
                | exact absurd rfl hc89
                | exact ih (p + 1) _ (by omega) (lt_s hI (fun ⟨y1, y2, y3⟩ => by first | exact y1 ((nI_eq (by omega) (by omega)).mp hc70) | exact y2 hc89 | (rcases y3 with ⟨v1, v2⟩ | ⟨v1, v2⟩ <;> first | exact absurd v1 (Int32.not_lt.mpr hc165) | exact absurd v2 hc171 | exact absurd v1 (Int32.not_lt.mpr hc187) | exact absurd v2 (Int32.not_lt.mpr hc193))))
            · skip
              refine MW.iload_n dX6_keepsOff_190 rfl ?_
              refine MW.iload dX6_keepsOff_191 rfl ?_
              refine MW.icmp_le 198 dX6_keepsOff_193 (by decide) (fun hc193 => ?_) (fun hc193 => ?_)
              · skip
                refine MW.iincj dX6_keepsOff_198 rfl rfl rfl ?_
                refine MW.goto 58 dX6_keepsOff_201 (by decide) ?_
                first
                  | exact absurd rfl hc89
                  | exact ih (p + 1) _ (by omega) (lt_s hI (fun ⟨y1, y2, y3⟩ => by first | exact y1 ((nI_eq (by omega) (by omega)).mp hc70) | exact y2 hc89 | (rcases y3 with ⟨v1, v2⟩ | ⟨v1, v2⟩ <;> first | exact absurd v1 (Int32.not_lt.mpr hc165) | exact absurd v2 hc171 | exact absurd v1 (Int32.not_lt.mpr hc187) | exact absurd v2 (Int32.not_lt.mpr hc193))))
              · skip
                refine MW.iconst (v := 1) dX6_keepsOff_196 (by decide) ?_
                exact MW.ireturn dX6_keepsOff_197 rfl (rfl) (by first | exact absurd rfl hc89 | exact (rtb_t ⟨p, by omega, (fun z9 => hc70 (by rw [z9])), hc89, by first | exact Or.inl ⟨Int32.not_le.mp hc165, hc171⟩ | exact Or.inr ⟨Int32.not_le.mp hc187, Int32.not_le.mp hc193⟩⟩))
theorem m_ko5 {k : Nat} (hk : i 17 = nI k) (hk8 : k ≤ 8) {j : Nat} (hj : j < 8) {c : Int32} : MC (En l D t b L xs) MX6_keepsOff d [.ref (q 18), .int 5, .int (nI j), .int c] (hw t q i a w) mc ms (rt (some (.int (bI (ko a k j c 5)))) (hw t q i a w) mc ms) := by
  show MW _ _ _ 0 [some (.ref (q 18)), some (.int 5), some (.int (nI j)), some (.int c), none, none] [] _ _ _ _
  refine MW.iload_n dX6_keepsOff_0 rfl ?_
  refine MW.iconst (v := 2) dX6_keepsOff_1 (by decide) ?_
  refine MW.icmp_ne 26 dX6_keepsOff_2 (by decide) (fun hc2 => ?_) (fun hc2 => absurd hc2 (by decide))
  refine MW.iload_n dX6_keepsOff_26 rfl ?_
  refine MW.iconst (v := 3) dX6_keepsOff_27 (by decide) ?_
  refine MW.icmp_ne 55 dX6_keepsOff_28 (by decide) (fun hc28 => ?_) (fun hc28 => absurd hc28 (by decide))
  refine MW.iconst (v := 0) dX6_keepsOff_55 (by decide) ?_
  refine MW.istore dX6_keepsOff_56 rfl rfl ?_
  exact lm_ko5 hk hk8 hj k 0 none (by omega) (fun m h => absurd h (by omega))
end Model1
