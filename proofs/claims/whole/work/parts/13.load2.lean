noncomputable def cI (p : Prop) (x y : Int32) : Int32 := @ite Int32 p (Classical.propDecidable p) x y
theorem cI_t {p : Prop} {x y : Int32} (h : p) : cI p x y = x := if_pos h
theorem cI_f {p : Prop} {x y : Int32} (h : ¬ p) : cI p x y = y := if_neg h
theorem nz {p : Prop} (h : ¬ bI p = 0) : p := Classical.byContradiction (fun z => h (bI_0.mpr z))
theorem zz {p : Prop} (h : bI p = 0) : ¬ p := bI_0.mp h
theorem au_au {a : Nat → Nat → Int32} {k : Nat} {f g : Nat → Int32} : au (au a k f) k g = au a k g := by
  funext m
  by_cases h : m = k <;> simp [au, h]
theorem au_self {a : Nat → Nat → Int32} {k : Nat} : au a k (a k) = a := by
  funext m
  by_cases h : m = k
  · subst h; simp [au]
  · simp [au, h]
theorem au_at {a : Nat → Nat → Int32} {k : Nat} {f : Nat → Int32} : au a k f k = f := by simp [au]
theorem upd_upd {f : Nat → Int32} {j : Nat} {x y : Int32} : upd (upd f j x) j y = upd f j y := by
  funext m
  by_cases h : m = j <;> simp [upd, h]
theorem upd_self {f : Nat → Int32} {j : Nat} : upd f j (f j) = f := by
  funext m
  by_cases h : m = j
  · subst h; simp [upd]
  · simp [upd, h]
/-- the first thing that bars the pallet j from the cell m, axles apart: 1 to 5, or 0 -/
noncomputable def fb (a : Nat → Nat → Int32) (k j m : Nat) : Int32 :=
  cI (¬ a 7 j = nI m ∧ ∃ m', m' < k ∧ a 7 m' = nI m) 1 (cI (a 0 m < a 6 j) 2 (cI (¬ a 3 j = 0 ∧ a 1 m = 0) 3 (cI (dgP (a 4) (a 7) k j (nI m)) 4 (cI (spP (a 5) (a 7) k j (a 5 j) (nI m)) 5 0))))
/-- the axles bear what stands, with wh for where -/
def brP (i : Nat → Int32) (wt wh : Nat → Int32) (k : Nat) : Prop := axn (shr i 0) wt wh k ≤ i 6 * (i 5 - i 4) ∧ axn (shr i 1) wt wh k ≤ i 7 * (i 5 - i 4)
/-- .. and with the axles -/
noncomputable def fbx (i : Nat → Int32) (a : Nat → Nat → Int32) (k j m : Nat) : Int32 := cI (fb a k j m = 0) (cI (brP i (a 2) (upd (a 7) j (nI m)) k) 0 6) (fb a k j m)
section Load2
variable {l : Launch} {D : va_G} {t : ty4} {b L : Nat} {xs : Nat → Int32} {q : Nat → Nat} {i : Nat → Int32} {a : Nat → Nat → Int32} {w : Int64} {d mc ms : Nat}
set_option maxHeartbeats 1000000 in
theorem c_heightBars {n : Nat} (hn : i 2 = nI n) (hn12 : n ≤ 12) {j : Nat} (hj : j < 8) {m : Nat} (hm : m < n) : MC (En l D t b L xs) MX1_heightBars (d + 1) [.ref (q 1), .ref (q (6 + j)), .int (nI m)] (hw t q i a w) mc ms (rt (some (.int (bI (a 0 m < a 6 j)))) (hw t q i a w) mc ms) := by
  show MW _ _ _ 0 [some (.ref (q 1)), some (.ref (q (6 + j))), some (.int (nI m))] [] _ _ _ _
  refine MW.aload_n dX1_heightBars_0 rfl ?_
  refine MW.iload_n dX1_heightBars_1 rfl ?_
  refine MW.callV1 fX1_heightBars_2 1 rfl (c_hasCell) rfl rfl rfl rfl (Nat.le_of_ble_eq_true rfl) ?_
  refine MW.if_eq 25 dX1_heightBars_5 (by decide) (fun hc5 => absurd hc5 (fun z => zz z ⟨nI_pos' (by omega), by rw [hn]; exact nI_lt hm (by omega)⟩)) (fun hc5 => ?_)
  refine MW.aload_n dX1_heightBars_8 rfl ?_
  refine MW.getf fX1_heightBars_9 1 rfl rfl ?_
  refine MW.iload_n dX1_heightBars_12 rfl ?_
  refine MW.iaj dX1_heightBars_13 2 0 rfl rfl (show m < 12 by omega) (by decide) ?_
  refine MW.aload_n dX1_heightBars_14 rfl ?_
  refine MW.pg4 fX1_heightBars_15 hj ?_
  refine MW.icmp_ge 25 dX1_heightBars_18 (by decide) (fun hc18 => ?_) (fun hc18 => ?_)
  · skip
    refine MW.iconst (v := 0) dX1_heightBars_25 (by decide) ?_
    exact MW.ireturn dX1_heightBars_26 rfl (rfl) (by first | exact rtb_t (Int32.not_le.mp (by assumption)) | exact rtb_f (Int32.not_lt.mpr (by assumption)))
  · skip
    refine MW.iconst (v := 1) dX1_heightBars_21 (by decide) ?_
    refine MW.goto 26 dX1_heightBars_22 (by decide) ?_
    exact MW.ireturn dX1_heightBars_26 rfl (rfl) (by first | exact rtb_t (Int32.not_le.mp (by assumption)) | exact rtb_f (Int32.not_lt.mpr (by assumption)))
set_option maxHeartbeats 1000000 in
theorem c_coldBars {n : Nat} (hn : i 2 = nI n) (hn12 : n ≤ 12) {j : Nat} (hj : j < 8) {m : Nat} (hm : m < n) : MC (En l D t b L xs) MX1_coldBars (d + 1) [.ref (q 1), .ref (q (6 + j)), .int (nI m)] (hw t q i a w) mc ms (rt (some (.int (bI (¬ a 3 j = 0 ∧ a 1 m = 0)))) (hw t q i a w) mc ms) := by
  show MW _ _ _ 0 [some (.ref (q 1)), some (.ref (q (6 + j))), some (.int (nI m))] [] _ _ _ _
  refine MW.aload_n dX1_coldBars_0 rfl ?_
  refine MW.iload_n dX1_coldBars_1 rfl ?_
  refine MW.callV1 fX1_coldBars_2 1 rfl (c_hasCell) rfl rfl rfl rfl (Nat.le_of_ble_eq_true rfl) ?_
  refine MW.if_eq 28 dX1_coldBars_5 (by decide) (fun hc5 => absurd hc5 (fun z => zz z ⟨nI_pos' (by omega), by rw [hn]; exact nI_lt hm (by omega)⟩)) (fun hc5 => ?_)
  refine MW.aload_n dX1_coldBars_8 rfl ?_
  refine MW.pg1 fX1_coldBars_9 hj ?_
  refine MW.if_eq 28 dX1_coldBars_12 (by decide) (fun hc12 => ?_) (fun hc12 => ?_)
  · skip
    refine MW.iconst (v := 0) dX1_coldBars_28 (by decide) ?_
    exact MW.ireturn dX1_coldBars_29 rfl (rfl) (by first | exact rtb_t ⟨by assumption, by assumption⟩ | exact rtb_f (fun z => z.1 (by assumption)) | exact rtb_f (fun z => absurd z.2 (by assumption)))
  · skip
    refine MW.aload_n dX1_coldBars_15 rfl ?_
    refine MW.getf fX1_coldBars_16 1 rfl rfl ?_
    refine MW.iload_n dX1_coldBars_19 rfl ?_
    refine MW.zaj dX1_coldBars_20 3 1 rfl rfl (show m < 12 by omega) (by decide) ?_
    refine MW.if_ne 28 dX1_coldBars_21 (by decide) (fun hc21 => ?_) (fun hc21 => ?_)
    · skip
      refine MW.iconst (v := 0) dX1_coldBars_28 (by decide) ?_
      exact MW.ireturn dX1_coldBars_29 rfl (rfl) (by first | exact rtb_t ⟨by assumption, by assumption⟩ | exact rtb_f (fun z => z.1 (by assumption)) | exact rtb_f (fun z => absurd z.2 (by assumption)))
    · skip
      refine MW.iconst (v := 1) dX1_coldBars_24 (by decide) ?_
      refine MW.goto 29 dX1_coldBars_25 (by decide) ?_
      exact MW.ireturn dX1_coldBars_29 rfl (rfl) (by first | exact rtb_t ⟨by assumption, by assumption⟩ | exact rtb_f (fun z => z.1 (by assumption)) | exact rtb_f (fun z => absurd z.2 (by assumption)))
set_option maxHeartbeats 1000000 in
theorem c_othersBar {k : Nat} (hk : i 3 = nI k) (hk8 : k ≤ 8) {j : Nat} (hj : j < 8) {c : Int32} : MC (En l D t b L xs) MX1_othersBar (d + 1) [.ref (q 1), .ref (q (6 + j)), .int c] (hw t q i a w) mc ms (rt (some (.int (bI (¬ a 7 j = c ∧ ∃ m', m' < k ∧ a 7 m' = c)))) (hw t q i a w) mc ms) := by
  show MW _ _ _ 0 [some (.ref (q 1)), some (.ref (q (6 + j))), some (.int c)] [] _ _ _ _
  refine MW.aload_n dX1_othersBar_0 rfl ?_
  refine MW.pg5 fX1_othersBar_1 hj ?_
  refine MW.iload_n dX1_othersBar_4 rfl ?_
  refine MW.icmp_eq 20 dX1_othersBar_5 (by decide) (fun hc5 => ?_) (fun hc5 => ?_)
  · skip
    refine MW.iconst (v := 0) dX1_othersBar_20 (by decide) ?_
    exact MW.ireturn dX1_othersBar_21 rfl (rfl) (by first | exact rtb_t ⟨by assumption, nz (by assumption)⟩ | exact rtb_f (fun z => z.1 (by assumption)) | exact rtb_f (fun z => zz (by assumption) z.2))
  · skip
    refine MW.aload_n dX1_othersBar_8 rfl ?_
    refine MW.iload_n dX1_othersBar_9 rfl ?_
    refine MW.callV1 fX1_othersBar_10 1 rfl (c_isTaken hk hk8) rfl rfl rfl rfl (Nat.le_of_ble_eq_true rfl) ?_
    refine MW.if_eq 20 dX1_othersBar_13 (by decide) (fun hc13 => ?_) (fun hc13 => ?_)
    · skip
      refine MW.iconst (v := 0) dX1_othersBar_20 (by decide) ?_
      exact MW.ireturn dX1_othersBar_21 rfl (rfl) (by first | exact rtb_t ⟨by assumption, nz (by assumption)⟩ | exact rtb_f (fun z => z.1 (by assumption)) | exact rtb_f (fun z => zz (by assumption) z.2))
    · skip
      refine MW.iconst (v := 1) dX1_othersBar_16 (by decide) ?_
      refine MW.goto 21 dX1_othersBar_17 (by decide) ?_
      exact MW.ireturn dX1_othersBar_21 rfl (rfl) (by first | exact rtb_t ⟨by assumption, nz (by assumption)⟩ | exact rtb_f (fun z => z.1 (by assumption)) | exact rtb_f (fun z => zz (by assumption) z.2))
set_option maxHeartbeats 2000000 in
theorem l_dangerBars {k : Nat} (hk : i 3 = nI k) (hk8 : k ≤ 8) {j : Nat} (hj : j < 8) {c : Int32} : ∀ (r p : Nat) (z : Option Value), p + r = k → (∀ m, m < p → ¬ (m ≠ j ∧ ¬ a 7 m = -1 ∧ ¬ a 4 j = 0 ∧ ¬ a 4 m = 0 ∧ ab (a 7 m - c) = 1)) → MW (En l D t b L xs) MX1_dangerBars (d + 1) 2 [some (.ref (q 1)), some (.ref (q (6 + j))), some (.int c), some (.int (nI p)), z] [] (hw t q i a w) mc ms (rt (some (.int (bI (dgP (a 4) (a 7) k j c)))) (hw t q i a w) mc ms) := by
  intro r
  induction r with
  | zero =>
    intro p z hp hI
    refine MW.iload_n dX1_dangerBars_2 rfl ?_
    refine MW.aload_n dX1_dangerBars_3 rfl ?_
    refine MW.getf fX1_dangerBars_4 1 rfl rfl ?_
    refine MW.icmp_ge 69 dX1_dangerBars_7 (by decide) (fun hc7 => ?_) (fun hc7 => absurd (show i 3 ≤ nI p by rw [hk]; exact nI_le (by omega) (by omega)) hc7)
    refine MW.iconst (v := 0) dX1_dangerBars_69 (by decide) ?_
    exact MW.ireturn dX1_dangerBars_70 rfl (rfl) (rtb_f (fun ⟨m, h1, h2⟩ => hI m (by omega) h2))
  | succ r ih =>
    intro p z hp hI
    have hp8 : p < 8 := by omega
    refine MW.iload_n dX1_dangerBars_2 rfl ?_
    refine MW.aload_n dX1_dangerBars_3 rfl ?_
    refine MW.getf fX1_dangerBars_4 1 rfl rfl ?_
    refine MW.icmp_ge 69 dX1_dangerBars_7 (by decide) (fun hc7 => absurd hc7 (show ¬ i 3 ≤ nI p by rw [hk]; exact nI_ge (by omega) (by omega))) (fun hc7 => ?_)
    refine MW.aload_n dX1_dangerBars_10 rfl ?_
    refine MW.getf fX1_dangerBars_11 1 rfl rfl ?_
    refine MW.iload_n dX1_dangerBars_14 rfl ?_
    refine MW.row dX1_dangerBars_15 hp8 ?_
    refine MW.astore dX1_dangerBars_16 rfl rfl ?_
    refine MW.aload dX1_dangerBars_18 rfl ?_
    refine MW.aload_n dX1_dangerBars_20 rfl ?_
    refine MW.acmpD 63 dX1_dangerBars_21 (by decide) (6 + p) (6 + j) (hw_pal hp8) (hw_pal hj) (fun hc21 => ?_) (fun hc21 => ?_)
    · skip
      have hcj : p = j := by omega
      refine MW.iincj dX1_dangerBars_63 rfl rfl rfl ?_
      refine MW.goto 2 dX1_dangerBars_66 (by decide) ?_
      exact ih (p + 1) _ (by omega) (lt_s hI (fun z => by obtain ⟨z1, z2, z3, z4, z5⟩ := z; first | exact z1 (by assumption) | exact zz (by assumption) z2 | exact z3 (by assumption) | exact z4 (by assumption) | exact absurd z5 (by assumption)))
    · skip
      have hcj : p ≠ j := by omega
      refine MW.aload dX1_dangerBars_24 rfl ?_
      refine MW.callV1 fX1_dangerBars_26 (6 + _) (hw_pal hp8) (c_stands hp8) rfl rfl rfl rfl (Nat.le_of_ble_eq_true rfl) ?_
      refine MW.if_eq 63 dX1_dangerBars_29 (by decide) (fun hc29 => ?_) (fun hc29 => ?_)
      · skip
        refine MW.iincj dX1_dangerBars_63 rfl rfl rfl ?_
        refine MW.goto 2 dX1_dangerBars_66 (by decide) ?_
        exact ih (p + 1) _ (by omega) (lt_s hI (fun z => by obtain ⟨z1, z2, z3, z4, z5⟩ := z; first | exact z1 (by assumption) | exact zz (by assumption) z2 | exact z3 (by assumption) | exact z4 (by assumption) | exact absurd z5 (by assumption)))
      · skip
        refine MW.aload_n dX1_dangerBars_32 rfl ?_
        refine MW.pg2 fX1_dangerBars_33 hj ?_
        refine MW.if_eq 63 dX1_dangerBars_36 (by decide) (fun hc36 => ?_) (fun hc36 => ?_)
        · skip
          refine MW.iincj dX1_dangerBars_63 rfl rfl rfl ?_
          refine MW.goto 2 dX1_dangerBars_66 (by decide) ?_
          exact ih (p + 1) _ (by omega) (lt_s hI (fun z => by obtain ⟨z1, z2, z3, z4, z5⟩ := z; first | exact z1 (by assumption) | exact zz (by assumption) z2 | exact z3 (by assumption) | exact z4 (by assumption) | exact absurd z5 (by assumption)))
        · skip
          refine MW.aload dX1_dangerBars_39 rfl ?_
          refine MW.pg2 fX1_dangerBars_41 hp8 ?_
          refine MW.if_eq 63 dX1_dangerBars_44 (by decide) (fun hc44 => ?_) (fun hc44 => ?_)
          · skip
            refine MW.iincj dX1_dangerBars_63 rfl rfl rfl ?_
            refine MW.goto 2 dX1_dangerBars_66 (by decide) ?_
            exact ih (p + 1) _ (by omega) (lt_s hI (fun z => by obtain ⟨z1, z2, z3, z4, z5⟩ := z; first | exact z1 (by assumption) | exact zz (by assumption) z2 | exact z3 (by assumption) | exact z4 (by assumption) | exact absurd z5 (by assumption)))
          · skip
            refine MW.aload dX1_dangerBars_47 rfl ?_
            refine MW.pg5 fX1_dangerBars_49 hp8 ?_
            refine MW.iload_n dX1_dangerBars_52 rfl ?_
            refine MW.isub dX1_dangerBars_53 ?_
            refine MW.mabs dX1_dangerBars_54 fX1_dangerBars_54 wm_abs1 wm_i wm_abs2 (Nat.le_of_ble_eq_true rfl) ?_
            refine MW.iconst (v := 1) dX1_dangerBars_57 (by decide) ?_
            refine MW.icmp_ne 63 dX1_dangerBars_58 (by decide) (fun hc58 => ?_) (fun hc58 => ?_)
            · skip
              refine MW.iincj dX1_dangerBars_63 rfl rfl rfl ?_
              refine MW.goto 2 dX1_dangerBars_66 (by decide) ?_
              exact ih (p + 1) _ (by omega) (lt_s hI (fun z => by obtain ⟨z1, z2, z3, z4, z5⟩ := z; first | exact z1 (by assumption) | exact zz (by assumption) z2 | exact z3 (by assumption) | exact z4 (by assumption) | exact absurd z5 (by assumption)))
            · skip
              refine MW.iconst (v := 1) dX1_dangerBars_61 (by decide) ?_
              exact MW.ireturn dX1_dangerBars_62 rfl (rfl) (rtb_t ⟨p, by omega, by assumption, nz (by assumption), by assumption, by assumption, by assumption⟩)
theorem c_dangerBars {k : Nat} (hk : i 3 = nI k) (hk8 : k ≤ 8) {j : Nat} (hj : j < 8) {c : Int32} : MC (En l D t b L xs) MX1_dangerBars (d + 1) [.ref (q 1), .ref (q (6 + j)), .int c] (hw t q i a w) mc ms (rt (some (.int (bI (dgP (a 4) (a 7) k j c)))) (hw t q i a w) mc ms) := by
  show MW _ _ _ 0 [some (.ref (q 1)), some (.ref (q (6 + j))), some (.int c), none, none] [] _ _ _ _
  refine MW.iconst (v := 0) dX1_dangerBars_0 (by decide) ?_
  refine MW.istore_n dX1_dangerBars_1 rfl rfl ?_
  exact l_dangerBars hk hk8 hj k 0 none (by omega) (fun m h => absurd h (by omega))
set_option maxHeartbeats 2000000 in
theorem l_stopsBar {k : Nat} (hk : i 3 = nI k) (hk8 : k ≤ 8) {j : Nat} (hj : j < 8) {s c : Int32} : ∀ (r p : Nat) (z : Option Value), p + r = k → (∀ m, m < p → ¬ (m ≠ j ∧ ¬ a 7 m = -1 ∧ (a 5 m < s ∧ a 7 m < c ∨ s < a 5 m ∧ c < a 7 m))) → MW (En l D t b L xs) MX1_stopsBar (d + 1) 3 [some (.ref (q 1)), some (.ref (q (6 + j))), some (.int s), some (.int c), some (.int (nI p)), z] [] (hw t q i a w) mc ms (rt (some (.int (bI (spP (a 5) (a 7) k j s c)))) (hw t q i a w) mc ms) := by
  intro r
  induction r with
  | zero =>
    intro p z hp hI
    refine MW.iload dX1_stopsBar_3 rfl ?_
    refine MW.aload_n dX1_stopsBar_5 rfl ?_
    refine MW.getf fX1_stopsBar_6 1 rfl rfl ?_
    refine MW.icmp_ge 79 dX1_stopsBar_9 (by decide) (fun hc9 => ?_) (fun hc9 => absurd (show i 3 ≤ nI p by rw [hk]; exact nI_le (by omega) (by omega)) hc9)
    refine MW.iconst (v := 0) dX1_stopsBar_79 (by decide) ?_
    exact MW.ireturn dX1_stopsBar_80 rfl (rfl) (rtb_f (fun ⟨m, h1, h2⟩ => hI m (by omega) h2))
  | succ r ih =>
    intro p z hp hI
    have hp8 : p < 8 := by omega
    refine MW.iload dX1_stopsBar_3 rfl ?_
    refine MW.aload_n dX1_stopsBar_5 rfl ?_
    refine MW.getf fX1_stopsBar_6 1 rfl rfl ?_
    refine MW.icmp_ge 79 dX1_stopsBar_9 (by decide) (fun hc9 => absurd hc9 (show ¬ i 3 ≤ nI p by rw [hk]; exact nI_ge (by omega) (by omega))) (fun hc9 => ?_)
    refine MW.aload_n dX1_stopsBar_12 rfl ?_
    refine MW.getf fX1_stopsBar_13 1 rfl rfl ?_
    refine MW.iload dX1_stopsBar_16 rfl ?_
    refine MW.row dX1_stopsBar_18 hp8 ?_
    refine MW.astore dX1_stopsBar_19 rfl rfl ?_
    refine MW.aload dX1_stopsBar_21 rfl ?_
    refine MW.aload_n dX1_stopsBar_23 rfl ?_
    refine MW.acmpD 73 dX1_stopsBar_24 (by decide) (6 + p) (6 + j) (hw_pal hp8) (hw_pal hj) (fun hc24 => ?_) (fun hc24 => ?_)
    · skip
      have hcj : p = j := by omega
      refine MW.iincj dX1_stopsBar_73 rfl rfl rfl ?_
      refine MW.goto 3 dX1_stopsBar_76 (by decide) ?_
      exact ih (p + 1) _ (by omega) (lt_s hI (fun z => by obtain ⟨z1, z2, z5⟩ := z; first | exact z1 (by assumption) | exact zz (by assumption) z2 | (rcases z5 with ⟨y1, y2⟩ | ⟨y1, y2⟩ <;> first | exact absurd y1 (Int32.not_lt.mpr (by assumption)) | exact absurd y2 (by assumption) | exact absurd y2 (Int32.not_lt.mpr (by assumption)))))
    · skip
      have hcj : p ≠ j := by omega
      refine MW.aload dX1_stopsBar_27 rfl ?_
      refine MW.callV1 fX1_stopsBar_29 (6 + _) (hw_pal hp8) (c_stands hp8) rfl rfl rfl rfl (Nat.le_of_ble_eq_true rfl) ?_
      refine MW.if_eq 73 dX1_stopsBar_32 (by decide) (fun hc32 => ?_) (fun hc32 => ?_)
      · skip
        refine MW.iincj dX1_stopsBar_73 rfl rfl rfl ?_
        refine MW.goto 3 dX1_stopsBar_76 (by decide) ?_
        exact ih (p + 1) _ (by omega) (lt_s hI (fun z => by obtain ⟨z1, z2, z5⟩ := z; first | exact z1 (by assumption) | exact zz (by assumption) z2 | (rcases z5 with ⟨y1, y2⟩ | ⟨y1, y2⟩ <;> first | exact absurd y1 (Int32.not_lt.mpr (by assumption)) | exact absurd y2 (by assumption) | exact absurd y2 (Int32.not_lt.mpr (by assumption)))))
      · skip
        refine MW.aload dX1_stopsBar_35 rfl ?_
        refine MW.pg3 fX1_stopsBar_37 hp8 ?_
        refine MW.iload_n dX1_stopsBar_40 rfl ?_
        refine MW.icmp_ge 53 dX1_stopsBar_41 (by decide) (fun hc41 => ?_) (fun hc41 => ?_)
        · skip
          refine MW.aload dX1_stopsBar_53 rfl ?_
          refine MW.pg3 fX1_stopsBar_55 hp8 ?_
          refine MW.iload_n dX1_stopsBar_58 rfl ?_
          refine MW.icmp_le 73 dX1_stopsBar_59 (by decide) (fun hc59 => ?_) (fun hc59 => ?_)
          · skip
            refine MW.iincj dX1_stopsBar_73 rfl rfl rfl ?_
            refine MW.goto 3 dX1_stopsBar_76 (by decide) ?_
            exact ih (p + 1) _ (by omega) (lt_s hI (fun z => by obtain ⟨z1, z2, z5⟩ := z; first | exact z1 (by assumption) | exact zz (by assumption) z2 | (rcases z5 with ⟨y1, y2⟩ | ⟨y1, y2⟩ <;> first | exact absurd y1 (Int32.not_lt.mpr (by assumption)) | exact absurd y2 (by assumption) | exact absurd y2 (Int32.not_lt.mpr (by assumption)))))
          · skip
            refine MW.aload dX1_stopsBar_62 rfl ?_
            refine MW.pg5 fX1_stopsBar_64 hp8 ?_
            refine MW.iload_n dX1_stopsBar_67 rfl ?_
            refine MW.icmp_le 73 dX1_stopsBar_68 (by decide) (fun hc68 => ?_) (fun hc68 => ?_)
            · skip
              refine MW.iincj dX1_stopsBar_73 rfl rfl rfl ?_
              refine MW.goto 3 dX1_stopsBar_76 (by decide) ?_
              exact ih (p + 1) _ (by omega) (lt_s hI (fun z => by obtain ⟨z1, z2, z5⟩ := z; first | exact z1 (by assumption) | exact zz (by assumption) z2 | (rcases z5 with ⟨y1, y2⟩ | ⟨y1, y2⟩ <;> first | exact absurd y1 (Int32.not_lt.mpr (by assumption)) | exact absurd y2 (by assumption) | exact absurd y2 (Int32.not_lt.mpr (by assumption)))))
            · skip
              refine MW.iconst (v := 1) dX1_stopsBar_71 (by decide) ?_
              exact MW.ireturn dX1_stopsBar_72 rfl (rfl) (rtb_t ⟨p, by omega, by assumption, nz (by assumption), by first | exact Or.inl ⟨Int32.not_le.mp (by assumption), by assumption⟩ | exact Or.inr ⟨Int32.not_le.mp (by assumption), Int32.not_le.mp (by assumption)⟩⟩)
        · skip
          refine MW.aload dX1_stopsBar_44 rfl ?_
          refine MW.pg5 fX1_stopsBar_46 hp8 ?_
          refine MW.iload_n dX1_stopsBar_49 rfl ?_
          refine MW.icmp_lt 71 dX1_stopsBar_50 (by decide) (fun hc50 => ?_) (fun hc50 => ?_)
          · skip
            refine MW.iconst (v := 1) dX1_stopsBar_71 (by decide) ?_
            exact MW.ireturn dX1_stopsBar_72 rfl (rfl) (rtb_t ⟨p, by omega, by assumption, nz (by assumption), by first | exact Or.inl ⟨Int32.not_le.mp (by assumption), by assumption⟩ | exact Or.inr ⟨Int32.not_le.mp (by assumption), Int32.not_le.mp (by assumption)⟩⟩)
          · skip
            refine MW.aload dX1_stopsBar_53 rfl ?_
            refine MW.pg3 fX1_stopsBar_55 hp8 ?_
            refine MW.iload_n dX1_stopsBar_58 rfl ?_
            refine MW.icmp_le 73 dX1_stopsBar_59 (by decide) (fun hc59 => ?_) (fun hc59 => ?_)
            · skip
              refine MW.iincj dX1_stopsBar_73 rfl rfl rfl ?_
              refine MW.goto 3 dX1_stopsBar_76 (by decide) ?_
              exact ih (p + 1) _ (by omega) (lt_s hI (fun z => by obtain ⟨z1, z2, z5⟩ := z; first | exact z1 (by assumption) | exact zz (by assumption) z2 | (rcases z5 with ⟨y1, y2⟩ | ⟨y1, y2⟩ <;> first | exact absurd y1 (Int32.not_lt.mpr (by assumption)) | exact absurd y2 (by assumption) | exact absurd y2 (Int32.not_lt.mpr (by assumption)))))
            · skip
              refine MW.aload dX1_stopsBar_62 rfl ?_
              refine MW.pg5 fX1_stopsBar_64 hp8 ?_
              refine MW.iload_n dX1_stopsBar_67 rfl ?_
              refine MW.icmp_le 73 dX1_stopsBar_68 (by decide) (fun hc68 => ?_) (fun hc68 => ?_)
              · skip
                refine MW.iincj dX1_stopsBar_73 rfl rfl rfl ?_
                refine MW.goto 3 dX1_stopsBar_76 (by decide) ?_
                exact ih (p + 1) _ (by omega) (lt_s hI (fun z => by obtain ⟨z1, z2, z5⟩ := z; first | exact z1 (by assumption) | exact zz (by assumption) z2 | (rcases z5 with ⟨y1, y2⟩ | ⟨y1, y2⟩ <;> first | exact absurd y1 (Int32.not_lt.mpr (by assumption)) | exact absurd y2 (by assumption) | exact absurd y2 (Int32.not_lt.mpr (by assumption)))))
              · skip
                refine MW.iconst (v := 1) dX1_stopsBar_71 (by decide) ?_
                exact MW.ireturn dX1_stopsBar_72 rfl (rfl) (rtb_t ⟨p, by omega, by assumption, nz (by assumption), by first | exact Or.inl ⟨Int32.not_le.mp (by assumption), by assumption⟩ | exact Or.inr ⟨Int32.not_le.mp (by assumption), Int32.not_le.mp (by assumption)⟩⟩)
theorem c_stopsBar {k : Nat} (hk : i 3 = nI k) (hk8 : k ≤ 8) {j : Nat} (hj : j < 8) {s c : Int32} : MC (En l D t b L xs) MX1_stopsBar (d + 1) [.ref (q 1), .ref (q (6 + j)), .int s, .int c] (hw t q i a w) mc ms (rt (some (.int (bI (spP (a 5) (a 7) k j s c)))) (hw t q i a w) mc ms) := by
  show MW _ _ _ 0 [some (.ref (q 1)), some (.ref (q (6 + j))), some (.int s), some (.int c), none, none] [] _ _ _ _
  refine MW.iconst (v := 0) dX1_stopsBar_0 (by decide) ?_
  refine MW.istore dX1_stopsBar_1 rfl rfl ?_
  exact l_stopsBar hk hk8 hj k 0 none (by omega) (fun m h => absurd h (by omega))
set_option maxHeartbeats 1000000 in
theorem c_firstBarButAxles {k : Nat} (hk : i 3 = nI k) (hk8 : k ≤ 8) {n : Nat} (hn : i 2 = nI n) (hn12 : n ≤ 12) {j : Nat} (hj : j < 8) {m : Nat} (hm : m < n) : MC (En l D t b L xs) MX1_firstBarButAxles (d + 2) [.ref (q 1), .ref (q (6 + j)), .int (nI m)] (hw t q i a w) mc ms (rt (some (.int (fb a k j m))) (hw t q i a w) mc ms) := by
  show MW _ _ _ 0 [some (.ref (q 1)), some (.ref (q (6 + j))), some (.int (nI m))] [] _ _ _ _
  refine MW.aload_n dX1_firstBarButAxles_0 rfl ?_
  refine MW.aload_n dX1_firstBarButAxles_1 rfl ?_
  refine MW.iload_n dX1_firstBarButAxles_2 rfl ?_
  refine MW.callV1 fX1_firstBarButAxles_3 1 rfl (c_othersBar hk hk8 hj) rfl rfl rfl rfl (Nat.le_of_ble_eq_true rfl) ?_
  refine MW.if_eq 11 dX1_firstBarButAxles_6 (by decide) (fun hc6 => ?_) (fun hc6 => ?_)
  · skip
    refine MW.aload_n dX1_firstBarButAxles_11 rfl ?_
    refine MW.aload_n dX1_firstBarButAxles_12 rfl ?_
    refine MW.iload_n dX1_firstBarButAxles_13 rfl ?_
    refine MW.callV1 fX1_firstBarButAxles_14 1 rfl (c_heightBars hn hn12 hj hm) rfl rfl rfl rfl (Nat.le_of_ble_eq_true rfl) ?_
    refine MW.if_eq 22 dX1_firstBarButAxles_17 (by decide) (fun hc17 => ?_) (fun hc17 => ?_)
    · skip
      refine MW.aload_n dX1_firstBarButAxles_22 rfl ?_
      refine MW.aload_n dX1_firstBarButAxles_23 rfl ?_
      refine MW.iload_n dX1_firstBarButAxles_24 rfl ?_
      refine MW.callV1 fX1_firstBarButAxles_25 1 rfl (c_coldBars hn hn12 hj hm) rfl rfl rfl rfl (Nat.le_of_ble_eq_true rfl) ?_
      refine MW.if_eq 33 dX1_firstBarButAxles_28 (by decide) (fun hc28 => ?_) (fun hc28 => ?_)
      · skip
        refine MW.aload_n dX1_firstBarButAxles_33 rfl ?_
        refine MW.aload_n dX1_firstBarButAxles_34 rfl ?_
        refine MW.iload_n dX1_firstBarButAxles_35 rfl ?_
        refine MW.callV1 fX1_firstBarButAxles_36 1 rfl (c_dangerBars hk hk8 hj) rfl rfl rfl rfl (Nat.le_of_ble_eq_true rfl) ?_
        refine MW.if_eq 44 dX1_firstBarButAxles_39 (by decide) (fun hc39 => ?_) (fun hc39 => ?_)
        · skip
          refine MW.aload_n dX1_firstBarButAxles_44 rfl ?_
          refine MW.aload_n dX1_firstBarButAxles_45 rfl ?_
          refine MW.aload_n dX1_firstBarButAxles_46 rfl ?_
          refine MW.pg3 fX1_firstBarButAxles_47 hj ?_
          refine MW.iload_n dX1_firstBarButAxles_50 rfl ?_
          refine MW.callV1 fX1_firstBarButAxles_51 1 rfl (c_stopsBar hk hk8 hj) rfl rfl rfl rfl (Nat.le_of_ble_eq_true rfl) ?_
          refine MW.if_eq 61 dX1_firstBarButAxles_54 (by decide) (fun hc54 => ?_) (fun hc54 => ?_)
          · skip
            refine MW.iconst (v := 0) dX1_firstBarButAxles_61 (by decide) ?_
            exact MW.ireturn dX1_firstBarButAxles_62 rfl (rfl) (rt_e (by unfold fb; first | rw [cI_f (zz hc6), cI_f (zz hc17), cI_f (zz hc28), cI_f (zz hc39), cI_t (nz hc54)] | rw [cI_f (zz hc6), cI_f (zz hc17), cI_f (zz hc28), cI_f (zz hc39), cI_f (zz hc54)]))
          · skip
            refine MW.iconst (v := 5) dX1_firstBarButAxles_57 (by decide) ?_
            refine MW.goto 62 dX1_firstBarButAxles_58 (by decide) ?_
            exact MW.ireturn dX1_firstBarButAxles_62 rfl (rfl) (rt_e (by unfold fb; first | rw [cI_f (zz hc6), cI_f (zz hc17), cI_f (zz hc28), cI_f (zz hc39), cI_t (nz hc54)] | rw [cI_f (zz hc6), cI_f (zz hc17), cI_f (zz hc28), cI_f (zz hc39), cI_f (zz hc54)]))
        · skip
          refine MW.iconst (v := 4) dX1_firstBarButAxles_42 (by decide) ?_
          exact MW.ireturn dX1_firstBarButAxles_43 rfl (rfl) (rt_e (by unfold fb; rw [cI_f (zz hc6), cI_f (zz hc17), cI_f (zz hc28), cI_t (nz hc39)]))
      · skip
        refine MW.iconst (v := 3) dX1_firstBarButAxles_31 (by decide) ?_
        exact MW.ireturn dX1_firstBarButAxles_32 rfl (rfl) (rt_e (by unfold fb; rw [cI_f (zz hc6), cI_f (zz hc17), cI_t (nz hc28)]))
    · skip
      refine MW.iconst (v := 2) dX1_firstBarButAxles_20 (by decide) ?_
      exact MW.ireturn dX1_firstBarButAxles_21 rfl (rfl) (rt_e (by unfold fb; rw [cI_f (zz hc6), cI_t (nz hc17)]))
  · skip
    refine MW.iconst (v := 1) dX1_firstBarButAxles_9 (by decide) ?_
    exact MW.ireturn dX1_firstBarButAxles_10 rfl (rfl) (rt_e (cI_t (nz hc6)))
set_option maxHeartbeats 1000000 in
theorem c_axlesBar {k : Nat} (hk : i 3 = nI k) (hk8 : k ≤ 8) {j : Nat} (hj : j < 8) {c : Int32} : MC (En l D t b L xs) MX1_axlesBar (d + 2) [.ref (q 1), .ref (q (6 + j)), .int c] (hw t q i a w) mc ms (rt (some (.int (bI (¬ brP i (a 2) (upd (a 7) j c) k)))) (hw t q i a w) mc ms) := by
  show MW _ _ _ 0 [some (.ref (q 1)), some (.ref (q (6 + j))), some (.int c), none, none] [] _ _ _ _
  refine MW.aload_n dX1_axlesBar_0 rfl ?_
  refine MW.pg5 fX1_axlesBar_1 hj ?_
  refine MW.istore_n dX1_axlesBar_4 rfl rfl ?_
  refine MW.aload_n dX1_axlesBar_5 rfl ?_
  refine MW.iload_n dX1_axlesBar_6 rfl ?_
  refine MW.pp5 fX1_axlesBar_7 hj (rfl) (rfl) ?_
  refine MW.aload_n dX1_axlesBar_10 rfl ?_
  refine MW.getf fX1_axlesBar_11 1 rfl rfl ?_
  refine MW.aload_n dX1_axlesBar_14 rfl ?_
  refine MW.iconst (v := 0) dX1_axlesBar_15 (by decide) ?_
  refine MW.callV1 fX1_axlesBar_16 1 rfl (c_onAxle (a := (au a 7 (upd (a 7) j c))) hk hk8) rfl rfl rfl rfl (Nat.le_of_ble_eq_true rfl) ?_
  refine MW.aload_n dX1_axlesBar_19 rfl ?_
  refine MW.iconst (v := 1) dX1_axlesBar_20 (by decide) ?_
  refine MW.callV1 fX1_axlesBar_21 1 rfl (c_onAxle (a := (au a 7 (upd (a 7) j c))) hk hk8) rfl rfl rfl rfl (Nat.le_of_ble_eq_true rfl) ?_
  refine MW.callV1 fX1_axlesBar_24 5 rfl (c_bear) rfl rfl rfl rfl (Nat.le_of_ble_eq_true rfl) ?_
  refine MW.top (v' := .int (bI (brP i (a 2) (upd (a 7) j c) k))) rfl ?_
  refine MW.istore dX1_axlesBar_27 rfl rfl ?_
  refine MW.aload_n dX1_axlesBar_29 rfl ?_
  refine MW.iload_n dX1_axlesBar_30 rfl ?_
  refine MW.pp5 fX1_axlesBar_31 hj (rfl) (rfl) ?_
  refine MW.heap (h' := hw t q i a w) (by rw [au_au, au_at, upd_upd, upd_self, au_self]) ?_
  refine MW.iload dX1_axlesBar_34 rfl ?_
  refine MW.if_ne 43 dX1_axlesBar_36 (by decide) (fun hc36 => ?_) (fun hc36 => ?_)
  · skip
    refine MW.iconst (v := 0) dX1_axlesBar_43 (by decide) ?_
    exact MW.ireturn dX1_axlesBar_44 rfl (rfl) (by first | exact rtb_t (zz (by assumption)) | exact rtb_f (fun z => z (nz (by assumption))))
  · skip
    refine MW.iconst (v := 1) dX1_axlesBar_39 (by decide) ?_
    refine MW.goto 44 dX1_axlesBar_40 (by decide) ?_
    exact MW.ireturn dX1_axlesBar_44 rfl (rfl) (by first | exact rtb_t (zz (by assumption)) | exact rtb_f (fun z => z (nz (by assumption))))
set_option maxHeartbeats 1000000 in
theorem c_firstBar {k : Nat} (hk : i 3 = nI k) (hk8 : k ≤ 8) {n : Nat} (hn : i 2 = nI n) (hn12 : n ≤ 12) {j : Nat} (hj : j < 8) {m : Nat} (hm : m < n) : MC (En l D t b L xs) MX1_firstBar (d + 3) [.ref (q 1), .ref (q (6 + j)), .int (nI m)] (hw t q i a w) mc ms (rt (some (.int (fbx i a k j m))) (hw t q i a w) mc ms) := by
  show MW _ _ _ 0 [some (.ref (q 1)), some (.ref (q (6 + j))), some (.int (nI m)), none] [] _ _ _ _
  refine MW.aload_n dX1_firstBar_0 rfl ?_
  refine MW.aload_n dX1_firstBar_1 rfl ?_
  refine MW.iload_n dX1_firstBar_2 rfl ?_
  refine MW.callV1 fX1_firstBar_3 1 rfl (c_firstBarButAxles hk hk8 hn hn12 hj hm) rfl rfl rfl rfl (Nat.le_of_ble_eq_true rfl) ?_
  refine MW.istore_n dX1_firstBar_6 rfl rfl ?_
  refine MW.iload_n dX1_firstBar_7 rfl ?_
  refine MW.if_eq 13 dX1_firstBar_8 (by decide) (fun hc8 => ?_) (fun hc8 => ?_)
  · skip
    refine MW.aload_n dX1_firstBar_13 rfl ?_
    refine MW.aload_n dX1_firstBar_14 rfl ?_
    refine MW.iload_n dX1_firstBar_15 rfl ?_
    refine MW.callV1 fX1_firstBar_16 1 rfl (c_axlesBar hk hk8 hj) rfl rfl rfl rfl (Nat.le_of_ble_eq_true rfl) ?_
    refine MW.if_eq 27 dX1_firstBar_19 (by decide) (fun hc19 => ?_) (fun hc19 => ?_)
    · skip
      refine MW.iconst (v := 0) dX1_firstBar_27 (by decide) ?_
      exact MW.ireturn dX1_firstBar_28 rfl (rfl) (rt_e (by unfold fbx; first | rw [cI_t hc8, cI_t (Classical.byContradiction (zz hc19))] | rw [cI_t hc8, cI_f (nz hc19)]))
    · skip
      refine MW.bipush (v := 6) dX1_firstBar_22 (by decide) ?_
      refine MW.goto 28 dX1_firstBar_24 (by decide) ?_
      exact MW.ireturn dX1_firstBar_28 rfl (rfl) (rt_e (by unfold fbx; first | rw [cI_t hc8, cI_t (Classical.byContradiction (zz hc19))] | rw [cI_t hc8, cI_f (nz hc19)]))
  · skip
    refine MW.iload_n dX1_firstBar_11 rfl ?_
    exact MW.ireturn dX1_firstBar_12 rfl (rfl) (rt_e (cI_f hc8))
end Load2
