section Face2
variable {l : Launch} {D : va_G} {t : ty4} {b L : Nat} {xs : Nat → Int32} {q : Nat → Nat} {i : Nat → Int32} {a : Nat → Nat → Int32} {w : Int64} {d mc ms : Nat}
set_option maxHeartbeats 2000000 in
theorem c_cell_x5 {c ht cd : Int32} (h1 : ¬ (0 ≤ c ∧ c < i 2)) (hmc : mc + 1 ≤ mi_CC) (hms : ms + 6 ≤ mi_CS) : MC (En l D t b L xs) MX5_cell 20 [.ref (q 0), .int c, .int ht, .int cd] (hw t q i a w) mc ms (xt 5 (hw t q i a w) mc ms) := by
  show MW _ _ _ 0 [some (.ref (q 0)), some (.int c), some (.int ht), some (.int cd)] [] _ _ _ _
  refine MW.aload_n dX5_cell_0 rfl ?_
  refine MW.getf fX5_cell_1 0 rfl rfl ?_
  refine MW.iload_n dX5_cell_4 rfl ?_
  refine MW.callV1 fX5_cell_5 1 rfl (c_hasCell) rfl rfl rfl rfl (Nat.le_of_ble_eq_true rfl) ?_
  refine MW.if_ne 21 dX5_cell_8 (by decide) (fun hc8 => absurd (bI_0.mpr h1) hc8) (fun hc8 => ?_)
  exact MW.throwS fX5_cell_11 (Nat.le_of_ble_eq_true rfl) hmc hms xt_r
set_option maxHeartbeats 2000000 in
theorem c_cell_x1 {c ht cd : Int32} (h1 : 0 ≤ c ∧ c < i 2) (h2 : ¬ (1 ≤ ht ∧ ht ≤ 10)) (hmc : mc + 1 ≤ mi_CC) (hms : ms + 6 ≤ mi_CS) : MC (En l D t b L xs) MX5_cell 20 [.ref (q 0), .int c, .int ht, .int cd] (hw t q i a w) mc ms (xt 1 (hw t q i a w) mc ms) := by
  show MW _ _ _ 0 [some (.ref (q 0)), some (.int c), some (.int ht), some (.int cd)] [] _ _ _ _
  refine MW.aload_n dX5_cell_0 rfl ?_
  refine MW.getf fX5_cell_1 0 rfl rfl ?_
  refine MW.iload_n dX5_cell_4 rfl ?_
  refine MW.callV1 fX5_cell_5 1 rfl (c_hasCell) rfl rfl rfl rfl (Nat.le_of_ble_eq_true rfl) ?_
  refine MW.if_ne 21 dX5_cell_8 (by decide) (fun hc8 => ?_) (fun hc8 => absurd hc8 (fun z => zz z h1))
  refine MW.iload_n dX5_cell_21 rfl ?_
  refine MW.iconst (v := 1) dX5_cell_22 (by decide) ?_
  refine MW.bipush (v := 10) dX5_cell_23 (by decide) ?_
  exact MW.thrS fX5_cell_25 (c_rw_no h2 hmc hms) rfl rfl rfl rfl (Nat.le_of_ble_eq_true rfl) rfl xt_r
set_option maxHeartbeats 2000000 in
theorem c_cell_x2 {k : Nat} (hk : i 3 = nI k) (hk8 : k ≤ 8) {c ht cd : Int32} (h1 : 0 ≤ c ∧ c < i 2) (h2 : 1 ≤ ht ∧ ht ≤ 10) (h3 : ∃ m, m < k ∧ a 7 m = c) (hmc : mc + 1 ≤ mi_CC) (hms : ms + 6 ≤ mi_CS) : MC (En l D t b L xs) MX5_cell 20 [.ref (q 0), .int c, .int ht, .int cd] (hw t q i a w) mc ms (xt 2 (hw t q i a w) mc ms) := by
  show MW _ _ _ 0 [some (.ref (q 0)), some (.int c), some (.int ht), some (.int cd)] [] _ _ _ _
  refine MW.aload_n dX5_cell_0 rfl ?_
  refine MW.getf fX5_cell_1 0 rfl rfl ?_
  refine MW.iload_n dX5_cell_4 rfl ?_
  refine MW.callV1 fX5_cell_5 1 rfl (c_hasCell) rfl rfl rfl rfl (Nat.le_of_ble_eq_true rfl) ?_
  refine MW.if_ne 21 dX5_cell_8 (by decide) (fun hc8 => ?_) (fun hc8 => absurd hc8 (fun z => zz z h1))
  refine MW.iload_n dX5_cell_21 rfl ?_
  refine MW.iconst (v := 1) dX5_cell_22 (by decide) ?_
  refine MW.bipush (v := 10) dX5_cell_23 (by decide) ?_
  refine MW.callS0 fX5_cell_25 (c_rw_ok h2) rfl rfl rfl rfl (Nat.le_of_ble_eq_true rfl) ?_
  refine MW.aload_n dX5_cell_28 rfl ?_
  refine MW.getf fX5_cell_29 0 rfl rfl ?_
  refine MW.iload_n dX5_cell_32 rfl ?_
  refine MW.callV1 fX5_cell_33 1 rfl (c_isTaken hk hk8) rfl rfl rfl rfl (Nat.le_of_ble_eq_true rfl) ?_
  refine MW.if_eq 49 dX5_cell_36 (by decide) (fun hc36 => absurd hc36 (fun z => zz z h3)) (fun hc36 => ?_)
  exact MW.throwS fX5_cell_39 (Nat.le_of_ble_eq_true rfl) hmc hms xt_r
set_option maxHeartbeats 2000000 in
theorem c_cell_ok {k : Nat} (hk : i 3 = nI k) (hk8 : k ≤ 8) {n : Nat} (hn : i 2 = nI n) (hn12 : n ≤ 12) {m : Nat} {ht cd : Int32} (hm : m < n) (h2 : 1 ≤ ht ∧ ht ≤ 10) (h3 : ¬ ∃ p, p < k ∧ a 7 p = nI m) (hcd : cd = 0 ∨ cd = 1) : MC (En l D t b L xs) MX5_cell 20 [.ref (q 0), .int (nI m), .int ht, .int cd] (hw t q i a w) mc ms (rt none (hw t q i (au (au a 0 (upd (a 0) m ht)) 1 (upd (a 1) m cd)) w) mc ms) := by
  show MW _ _ _ 0 [some (.ref (q 0)), some (.int (nI m)), some (.int ht), some (.int cd)] [] _ _ _ _
  refine MW.aload_n dX5_cell_0 rfl ?_
  refine MW.getf fX5_cell_1 0 rfl rfl ?_
  refine MW.iload_n dX5_cell_4 rfl ?_
  refine MW.callV1 fX5_cell_5 1 rfl (c_hasCell) rfl rfl rfl rfl (Nat.le_of_ble_eq_true rfl) ?_
  refine MW.if_ne 21 dX5_cell_8 (by decide) (fun hc8 => ?_) (fun hc8 => absurd hc8 (fun z => zz z ⟨nI_pos' (by omega), by rw [hn]; exact nI_lt hm (by omega)⟩))
  refine MW.iload_n dX5_cell_21 rfl ?_
  refine MW.iconst (v := 1) dX5_cell_22 (by decide) ?_
  refine MW.bipush (v := 10) dX5_cell_23 (by decide) ?_
  refine MW.callS0 fX5_cell_25 (c_rw_ok h2) rfl rfl rfl rfl (Nat.le_of_ble_eq_true rfl) ?_
  refine MW.aload_n dX5_cell_28 rfl ?_
  refine MW.getf fX5_cell_29 0 rfl rfl ?_
  refine MW.iload_n dX5_cell_32 rfl ?_
  refine MW.callV1 fX5_cell_33 1 rfl (c_isTaken hk hk8) rfl rfl rfl rfl (Nat.le_of_ble_eq_true rfl) ?_
  refine MW.if_eq 49 dX5_cell_36 (by decide) (fun hc36 => ?_) (fun hc36 => absurd (bI_0.mpr h3) hc36)
  refine MW.aload_n dX5_cell_49 rfl ?_
  refine MW.getf fX5_cell_50 0 rfl rfl ?_
  refine MW.getf fX5_cell_53 1 rfl rfl ?_
  refine MW.iload_n dX5_cell_56 rfl ?_
  refine MW.iload_n dX5_cell_57 rfl ?_
  refine MW.isj dX5_cell_58 2 0 rfl rfl (show m < 12 by omega) (by decide) ?_
  refine MW.heap hw_a2 ?_
  refine MW.aload_n dX5_cell_59 rfl ?_
  refine MW.getf fX5_cell_60 0 rfl rfl ?_
  refine MW.getf fX5_cell_63 1 rfl rfl ?_
  refine MW.iload_n dX5_cell_66 rfl ?_
  refine MW.iload_n dX5_cell_67 rfl ?_
  refine MW.zsj dX5_cell_68 3 1 rfl rfl (show m < 12 by omega) (by decide) (hcd) ?_
  refine MW.heap hw_a3 ?_
  exact MW.vreturn dX5_cell_69 rfl rt_r
set_option maxHeartbeats 2000000 in
theorem c_axles_x1 {x y z v : Int32} (h1 : ¬ ((0 ≤ x ∧ x ≤ 100) ∧ (0 ≤ y ∧ y ≤ 100) ∧ (0 ≤ z ∧ z ≤ 10000) ∧ (0 ≤ v ∧ v ≤ 10000) ∧ x < y)) (hmc : mc + 1 ≤ mi_CC) (hms : ms + 6 ≤ mi_CS) : MC (En l D t b L xs) MX5_axles 20 [.ref (q 0), .int x, .int y, .int z, .int v] (hw t q i a w) mc ms (xt 1 (hw t q i a w) mc ms) := by
  show MW _ _ _ 0 [some (.ref (q 0)), some (.int x), some (.int y), some (.int z), some (.int v)] [] _ _ _ _
  refine MW.iload_n dX5_axles_0 rfl ?_
  refine MW.iconst (v := 0) dX5_axles_1 (by decide) ?_
  refine MW.bipush (v := 100) dX5_axles_2 (by decide) ?_
  by_cases hq4 : 0 ≤ x ∧ x ≤ 100
  · skip
    refine MW.callS0 fX5_axles_4 (c_rw_ok hq4) rfl rfl rfl rfl (Nat.le_of_ble_eq_true rfl) ?_
    refine MW.iload_n dX5_axles_7 rfl ?_
    refine MW.iconst (v := 0) dX5_axles_8 (by decide) ?_
    refine MW.bipush (v := 100) dX5_axles_9 (by decide) ?_
    by_cases hq11 : 0 ≤ y ∧ y ≤ 100
    · skip
      refine MW.callS0 fX5_axles_11 (c_rw_ok hq11) rfl rfl rfl rfl (Nat.le_of_ble_eq_true rfl) ?_
      refine MW.iload_n dX5_axles_14 rfl ?_
      refine MW.iconst (v := 0) dX5_axles_15 (by decide) ?_
      refine MW.sipush (v := 10000) dX5_axles_16 (by decide) ?_
      by_cases hq19 : 0 ≤ z ∧ z ≤ 10000
      · skip
        refine MW.callS0 fX5_axles_19 (c_rw_ok hq19) rfl rfl rfl rfl (Nat.le_of_ble_eq_true rfl) ?_
        refine MW.iload dX5_axles_22 rfl ?_
        refine MW.iconst (v := 0) dX5_axles_24 (by decide) ?_
        refine MW.sipush (v := 10000) dX5_axles_25 (by decide) ?_
        by_cases hq28 : 0 ≤ v ∧ v ≤ 10000
        · skip
          refine MW.callS0 fX5_axles_28 (c_rw_ok hq28) rfl rfl rfl rfl (Nat.le_of_ble_eq_true rfl) ?_
          refine MW.iload_n dX5_axles_31 rfl ?_
          refine MW.iload_n dX5_axles_32 rfl ?_
          refine MW.icmp_gt 46 dX5_axles_33 (by decide) (fun hc33 => absurd hc33 (fun z9 => h1 ⟨hq4, hq11, hq19, hq28, z9⟩)) (fun hc33 => ?_)
          exact MW.throwS fX5_axles_36 (Nat.le_of_ble_eq_true rfl) hmc hms xt_r
        · skip
          exact MW.thrS fX5_axles_28 (c_rw_no hq28 hmc hms) rfl rfl rfl rfl (Nat.le_of_ble_eq_true rfl) rfl xt_r
      · skip
        exact MW.thrS fX5_axles_19 (c_rw_no hq19 hmc hms) rfl rfl rfl rfl (Nat.le_of_ble_eq_true rfl) rfl xt_r
    · skip
      exact MW.thrS fX5_axles_11 (c_rw_no hq11 hmc hms) rfl rfl rfl rfl (Nat.le_of_ble_eq_true rfl) rfl xt_r
  · skip
    exact MW.thrS fX5_axles_4 (c_rw_no hq4 hmc hms) rfl rfl rfl rfl (Nat.le_of_ble_eq_true rfl) rfl xt_r
set_option maxHeartbeats 2000000 in
theorem c_axles_ok {x y z v : Int32} (h1 : (0 ≤ x ∧ x ≤ 100) ∧ (0 ≤ y ∧ y ≤ 100) ∧ (0 ≤ z ∧ z ≤ 10000) ∧ (0 ≤ v ∧ v ≤ 10000) ∧ x < y) : MC (En l D t b L xs) MX5_axles 20 [.ref (q 0), .int x, .int y, .int z, .int v] (hw t q i a w) mc ms (rt none (hw t q (upd (upd (upd (upd i 4 x) 5 y) 6 z) 7 v) a w) mc ms) := by
  show MW _ _ _ 0 [some (.ref (q 0)), some (.int x), some (.int y), some (.int z), some (.int v)] [] _ _ _ _
  refine MW.iload_n dX5_axles_0 rfl ?_
  refine MW.iconst (v := 0) dX5_axles_1 (by decide) ?_
  refine MW.bipush (v := 100) dX5_axles_2 (by decide) ?_
  refine MW.callS0 fX5_axles_4 (c_rw_ok h1.1) rfl rfl rfl rfl (Nat.le_of_ble_eq_true rfl) ?_
  refine MW.iload_n dX5_axles_7 rfl ?_
  refine MW.iconst (v := 0) dX5_axles_8 (by decide) ?_
  refine MW.bipush (v := 100) dX5_axles_9 (by decide) ?_
  refine MW.callS0 fX5_axles_11 (c_rw_ok h1.2.1) rfl rfl rfl rfl (Nat.le_of_ble_eq_true rfl) ?_
  refine MW.iload_n dX5_axles_14 rfl ?_
  refine MW.iconst (v := 0) dX5_axles_15 (by decide) ?_
  refine MW.sipush (v := 10000) dX5_axles_16 (by decide) ?_
  refine MW.callS0 fX5_axles_19 (c_rw_ok h1.2.2.1) rfl rfl rfl rfl (Nat.le_of_ble_eq_true rfl) ?_
  refine MW.iload dX5_axles_22 rfl ?_
  refine MW.iconst (v := 0) dX5_axles_24 (by decide) ?_
  refine MW.sipush (v := 10000) dX5_axles_25 (by decide) ?_
  refine MW.callS0 fX5_axles_28 (c_rw_ok h1.2.2.2.1) rfl rfl rfl rfl (Nat.le_of_ble_eq_true rfl) ?_
  refine MW.iload_n dX5_axles_31 rfl ?_
  refine MW.iload_n dX5_axles_32 rfl ?_
  refine MW.icmp_gt 46 dX5_axles_33 (by decide) (fun hc33 => ?_) (fun hc33 => absurd h1.2.2.2.2 hc33)
  refine MW.aload_n dX5_axles_46 rfl ?_
  refine MW.getf fX5_axles_47 0 rfl rfl ?_
  refine MW.getf fX5_axles_50 1 rfl rfl ?_
  refine MW.iload_n dX5_axles_53 rfl ?_
  refine MW.iload_n dX5_axles_54 rfl ?_
  refine MW.iload_n dX5_axles_55 rfl ?_
  refine MW.iload dX5_axles_56 rfl ?_
  refine MW.callV0 fX5_axles_58 5 rfl (c_axset) rfl rfl rfl rfl (Nat.le_of_ble_eq_true rfl) ?_
  exact MW.vreturn dX5_axles_61 rfl rt_r
set_option maxHeartbeats 2000000 in
theorem c_pallet_x1 {x y z s v : Int32} (h1 : ¬ ((1 ≤ x ∧ x ≤ 1000) ∧ (1 ≤ s ∧ s ≤ 9) ∧ (1 ≤ v ∧ v ≤ 10))) (hmc : mc + 1 ≤ mi_CC) (hms : ms + 6 ≤ mi_CS) : MC (En l D t b L xs) MX5_pallet 20 [.ref (q 0), .int x, .int y, .int z, .int s, .int v] (hw t q i a w) mc ms (xt 1 (hw t q i a w) mc ms) := by
  show MW _ _ _ 0 [some (.ref (q 0)), some (.int x), some (.int y), some (.int z), some (.int s), some (.int v), none] [] _ _ _ _
  refine MW.iload_n dX5_pallet_0 rfl ?_
  refine MW.iconst (v := 1) dX5_pallet_1 (by decide) ?_
  refine MW.sipush (v := 1000) dX5_pallet_2 (by decide) ?_
  by_cases hq5 : 1 ≤ x ∧ x ≤ 1000
  · skip
    refine MW.callS0 fX5_pallet_5 (c_rw_ok hq5) rfl rfl rfl rfl (Nat.le_of_ble_eq_true rfl) ?_
    refine MW.iload dX5_pallet_8 rfl ?_
    refine MW.iconst (v := 1) dX5_pallet_10 (by decide) ?_
    refine MW.bipush (v := 9) dX5_pallet_11 (by decide) ?_
    by_cases hq13 : 1 ≤ s ∧ s ≤ 9
    · skip
      refine MW.callS0 fX5_pallet_13 (c_rw_ok hq13) rfl rfl rfl rfl (Nat.le_of_ble_eq_true rfl) ?_
      refine MW.iload dX5_pallet_16 rfl ?_
      refine MW.iconst (v := 1) dX5_pallet_18 (by decide) ?_
      refine MW.bipush (v := 10) dX5_pallet_19 (by decide) ?_
      by_cases hq21 : 1 ≤ v ∧ v ≤ 10
      · skip
        refine MW.callS0 fX5_pallet_21 (c_rw_ok hq21) rfl rfl rfl rfl (Nat.le_of_ble_eq_true rfl) ?_
        exact absurd ⟨hq5, hq13, hq21⟩ h1
      · skip
        exact MW.thrS fX5_pallet_21 (c_rw_no hq21 hmc hms) rfl rfl rfl rfl (Nat.le_of_ble_eq_true rfl) rfl xt_r
    · skip
      exact MW.thrS fX5_pallet_13 (c_rw_no hq13 hmc hms) rfl rfl rfl rfl (Nat.le_of_ble_eq_true rfl) rfl xt_r
  · skip
    exact MW.thrS fX5_pallet_5 (c_rw_no hq5 hmc hms) rfl rfl rfl rfl (Nat.le_of_ble_eq_true rfl) rfl xt_r
set_option maxHeartbeats 2000000 in
theorem c_pallet_x2 {x y z s v : Int32} (h1 : (1 ≤ x ∧ x ≤ 1000) ∧ (1 ≤ s ∧ s ≤ 9) ∧ (1 ≤ v ∧ v ≤ 10)) (h2 : ¬ i 0 = 0) (hmc : mc + 1 ≤ mi_CC) (hms : ms + 6 ≤ mi_CS) : MC (En l D t b L xs) MX5_pallet 20 [.ref (q 0), .int x, .int y, .int z, .int s, .int v] (hw t q i a w) mc ms (xt 2 (hw t q i a w) mc ms) := by
  show MW _ _ _ 0 [some (.ref (q 0)), some (.int x), some (.int y), some (.int z), some (.int s), some (.int v), none] [] _ _ _ _
  refine MW.iload_n dX5_pallet_0 rfl ?_
  refine MW.iconst (v := 1) dX5_pallet_1 (by decide) ?_
  refine MW.sipush (v := 1000) dX5_pallet_2 (by decide) ?_
  refine MW.callS0 fX5_pallet_5 (c_rw_ok h1.1) rfl rfl rfl rfl (Nat.le_of_ble_eq_true rfl) ?_
  refine MW.iload dX5_pallet_8 rfl ?_
  refine MW.iconst (v := 1) dX5_pallet_10 (by decide) ?_
  refine MW.bipush (v := 9) dX5_pallet_11 (by decide) ?_
  refine MW.callS0 fX5_pallet_13 (c_rw_ok h1.2.1) rfl rfl rfl rfl (Nat.le_of_ble_eq_true rfl) ?_
  refine MW.iload dX5_pallet_16 rfl ?_
  refine MW.iconst (v := 1) dX5_pallet_18 (by decide) ?_
  refine MW.bipush (v := 10) dX5_pallet_19 (by decide) ?_
  refine MW.callS0 fX5_pallet_21 (c_rw_ok h1.2.2) rfl rfl rfl rfl (Nat.le_of_ble_eq_true rfl) ?_
  refine MW.aload_n dX5_pallet_24 rfl ?_
  exact MW.thrV fX5_pallet_25 0 rfl (c_rs_no h2 hmc hms) rfl rfl rfl rfl (Nat.le_of_ble_eq_true rfl) rfl xt_r
set_option maxHeartbeats 2000000 in
theorem c_pallet_x3 {x y z s v : Int32} (h1 : (1 ≤ x ∧ x ≤ 1000) ∧ (1 ≤ s ∧ s ≤ 9) ∧ (1 ≤ v ∧ v ≤ 10)) (h2 : i 0 = 0) (h3 : i 3 = 8) (hmc : mc + 1 ≤ mi_CC) (hms : ms + 6 ≤ mi_CS) : MC (En l D t b L xs) MX5_pallet 20 [.ref (q 0), .int x, .int y, .int z, .int s, .int v] (hw t q i a w) mc ms (xt 3 (hw t q i a w) mc ms) := by
  show MW _ _ _ 0 [some (.ref (q 0)), some (.int x), some (.int y), some (.int z), some (.int s), some (.int v), none] [] _ _ _ _
  refine MW.iload_n dX5_pallet_0 rfl ?_
  refine MW.iconst (v := 1) dX5_pallet_1 (by decide) ?_
  refine MW.sipush (v := 1000) dX5_pallet_2 (by decide) ?_
  refine MW.callS0 fX5_pallet_5 (c_rw_ok h1.1) rfl rfl rfl rfl (Nat.le_of_ble_eq_true rfl) ?_
  refine MW.iload dX5_pallet_8 rfl ?_
  refine MW.iconst (v := 1) dX5_pallet_10 (by decide) ?_
  refine MW.bipush (v := 9) dX5_pallet_11 (by decide) ?_
  refine MW.callS0 fX5_pallet_13 (c_rw_ok h1.2.1) rfl rfl rfl rfl (Nat.le_of_ble_eq_true rfl) ?_
  refine MW.iload dX5_pallet_16 rfl ?_
  refine MW.iconst (v := 1) dX5_pallet_18 (by decide) ?_
  refine MW.bipush (v := 10) dX5_pallet_19 (by decide) ?_
  refine MW.callS0 fX5_pallet_21 (c_rw_ok h1.2.2) rfl rfl rfl rfl (Nat.le_of_ble_eq_true rfl) ?_
  refine MW.aload_n dX5_pallet_24 rfl ?_
  refine MW.callV0 fX5_pallet_25 0 rfl (c_rs_ok h2) rfl rfl rfl rfl (Nat.le_of_ble_eq_true rfl) ?_
  refine MW.aload_n dX5_pallet_28 rfl ?_
  refine MW.getf fX5_pallet_29 0 rfl rfl ?_
  refine MW.getf fX5_pallet_32 1 rfl rfl ?_
  refine MW.bipush (v := 8) dX5_pallet_35 (by decide) ?_
  refine MW.icmp_lt 50 dX5_pallet_37 (by decide) (fun hc37 => absurd hc37 (show ¬ i 3 < 8 by rw [h3]; decide)) (fun hc37 => ?_)
  exact MW.throwS fX5_pallet_40 (Nat.le_of_ble_eq_true rfl) hmc hms xt_r
set_option maxHeartbeats 2000000 in
theorem c_pallet_ok {k : Nat} (hk : i 3 = nI k) (hk8 : k ≤ 8) (hk7 : k < 8) {x y z s v : Int32} (hy : y = 0 ∨ y = 1) (hz : z = 0 ∨ z = 1) (h1 : (1 ≤ x ∧ x ≤ 1000) ∧ (1 ≤ s ∧ s ≤ 9) ∧ (1 ≤ v ∧ v ≤ 10)) (h2 : i 0 = 0) : MC (En l D t b L xs) MX5_pallet 20 [.ref (q 0), .int x, .int y, .int z, .int s, .int v] (hw t q i a w) mc ms (rt (some (.int (nI k))) (hw t q (upd i 3 (nI (k + 1))) (au (au (au (au (au a 2 (upd (a 2) k x)) 3 (upd (a 3) k y)) 4 (upd (a 4) k z)) 5 (upd (a 5) k s)) 6 (upd (a 6) k v)) w) mc ms) := by
  show MW _ _ _ 0 [some (.ref (q 0)), some (.int x), some (.int y), some (.int z), some (.int s), some (.int v), none] [] _ _ _ _
  refine MW.iload_n dX5_pallet_0 rfl ?_
  refine MW.iconst (v := 1) dX5_pallet_1 (by decide) ?_
  refine MW.sipush (v := 1000) dX5_pallet_2 (by decide) ?_
  refine MW.callS0 fX5_pallet_5 (c_rw_ok h1.1) rfl rfl rfl rfl (Nat.le_of_ble_eq_true rfl) ?_
  refine MW.iload dX5_pallet_8 rfl ?_
  refine MW.iconst (v := 1) dX5_pallet_10 (by decide) ?_
  refine MW.bipush (v := 9) dX5_pallet_11 (by decide) ?_
  refine MW.callS0 fX5_pallet_13 (c_rw_ok h1.2.1) rfl rfl rfl rfl (Nat.le_of_ble_eq_true rfl) ?_
  refine MW.iload dX5_pallet_16 rfl ?_
  refine MW.iconst (v := 1) dX5_pallet_18 (by decide) ?_
  refine MW.bipush (v := 10) dX5_pallet_19 (by decide) ?_
  refine MW.callS0 fX5_pallet_21 (c_rw_ok h1.2.2) rfl rfl rfl rfl (Nat.le_of_ble_eq_true rfl) ?_
  refine MW.aload_n dX5_pallet_24 rfl ?_
  refine MW.callV0 fX5_pallet_25 0 rfl (c_rs_ok h2) rfl rfl rfl rfl (Nat.le_of_ble_eq_true rfl) ?_
  refine MW.aload_n dX5_pallet_28 rfl ?_
  refine MW.getf fX5_pallet_29 0 rfl rfl ?_
  refine MW.getf fX5_pallet_32 1 rfl rfl ?_
  refine MW.bipush (v := 8) dX5_pallet_35 (by decide) ?_
  refine MW.icmp_lt 50 dX5_pallet_37 (by decide) (fun hc37 => ?_) (fun hc37 => absurd (show i 3 < 8 by rw [hk]; exact nI_lt (b := 8) hk7 (by omega)) hc37)
  refine MW.aload_n dX5_pallet_50 rfl ?_
  refine MW.getf fX5_pallet_51 0 rfl rfl ?_
  refine MW.getf fX5_pallet_54 1 rfl rfl ?_
  refine MW.top (v' := .int (nI k)) (by rw [hk]) ?_
  refine MW.istore dX5_pallet_57 rfl rfl ?_
  refine MW.aload_n dX5_pallet_59 rfl ?_
  refine MW.getf fX5_pallet_60 0 rfl rfl ?_
  refine MW.getf fX5_pallet_63 1 rfl rfl ?_
  refine MW.iload dX5_pallet_66 rfl ?_
  refine MW.row dX5_pallet_68 hk7 ?_
  refine MW.iload_n dX5_pallet_69 rfl ?_
  refine MW.iload_n dX5_pallet_70 rfl ?_
  refine MW.iload_n dX5_pallet_71 rfl ?_
  refine MW.iload dX5_pallet_72 rfl ?_
  refine MW.iload dX5_pallet_74 rfl ?_
  refine MW.callV0 fX5_pallet_76 (6 + _) (hw_pal hk7) (c_palset hk7 hy hz) rfl rfl rfl rfl (Nat.le_of_ble_eq_true rfl) ?_
  refine MW.aload_n dX5_pallet_79 rfl ?_
  refine MW.getf fX5_pallet_80 0 rfl rfl ?_
  refine MW.iload dX5_pallet_83 rfl ?_
  refine MW.iconst (v := 1) dX5_pallet_85 (by decide) ?_
  refine MW.iadd dX5_pallet_86 ?_
  refine MW.top (v' := .int (nI (k + 1))) (by rw [nI_1]) ?_
  refine MW.putf fX5_pallet_87 1 rfl (rfl) (rfl) rfl ?_
  refine MW.heap hw_s1_5 ?_
  refine MW.iload dX5_pallet_90 rfl ?_
  exact MW.ireturn dX5_pallet_92 rfl (rfl) rt_r
set_option maxHeartbeats 2000000 in
theorem c_solve_x1 {x : Int32} (h1 : ¬ (0 ≤ x ∧ x ≤ 5)) (hmc : mc + 1 ≤ mi_CC) (hms : ms + 6 ≤ mi_CS) : MC (En l D t b L xs) MX5_solve 20 [.ref (q 0), .int x] (hw t q i a w) mc ms (xt 1 (hw t q i a w) mc ms) := by
  show MW _ _ _ 0 [some (.ref (q 0)), some (.int x)] [] _ _ _ _
  refine MW.iload_n dX5_solve_0 rfl ?_
  refine MW.iconst (v := 0) dX5_solve_1 (by decide) ?_
  refine MW.iconst (v := 5) dX5_solve_2 (by decide) ?_
  exact MW.thrS fX5_solve_3 (c_rw_no h1 hmc hms) rfl rfl rfl rfl (Nat.le_of_ble_eq_true rfl) rfl xt_r
set_option maxHeartbeats 2000000 in
theorem c_solve_x2 {x : Int32} (h1 : 0 ≤ x ∧ x ≤ 5) (h2 : ¬ i 0 = 0 ∨ ¬ i 11 = 0) (hmc : mc + 1 ≤ mi_CC) (hms : ms + 6 ≤ mi_CS) : MC (En l D t b L xs) MX5_solve 20 [.ref (q 0), .int x] (hw t q i a w) mc ms (xt 2 (hw t q i a w) mc ms) := by
  show MW _ _ _ 0 [some (.ref (q 0)), some (.int x)] [] _ _ _ _
  refine MW.iload_n dX5_solve_0 rfl ?_
  refine MW.iconst (v := 0) dX5_solve_1 (by decide) ?_
  refine MW.iconst (v := 5) dX5_solve_2 (by decide) ?_
  refine MW.callS0 fX5_solve_3 (c_rw_ok h1) rfl rfl rfl rfl (Nat.le_of_ble_eq_true rfl) ?_
  refine MW.aload_n dX5_solve_6 rfl ?_
  by_cases hq7 : i 0 = 0
  · skip
    refine MW.callV0 fX5_solve_7 0 rfl (c_rs_ok hq7) rfl rfl rfl rfl (Nat.le_of_ble_eq_true rfl) ?_
    refine MW.aload_n dX5_solve_10 rfl ?_
    by_cases hq11 : i 11 = 0
    · skip
      refine MW.callV0 fX5_solve_11 0 rfl (c_rn_ok hq11) rfl rfl rfl rfl (Nat.le_of_ble_eq_true rfl) ?_
      exact absurd hq11 (h2.elim (fun z => absurd hq7 z) id)
    · skip
      exact MW.thrV fX5_solve_11 0 rfl (c_rn_no hq11 hmc hms) rfl rfl rfl rfl (Nat.le_of_ble_eq_true rfl) rfl xt_r
  · skip
    exact MW.thrV fX5_solve_7 0 rfl (c_rs_no hq7 hmc hms) rfl rfl rfl rfl (Nat.le_of_ble_eq_true rfl) rfl xt_r
set_option maxHeartbeats 2000000 in
theorem c_solve_e {k : Nat} (hk : i 3 = nI k) (hk8 : k ≤ 8) {n : Nat} (hn : i 2 = nI n) (hn12 : n ≤ 12) {x : Int32} (h1 : 0 ≤ x ∧ x ≤ 5) (h2 : i 0 = 0) (h3 : i 11 = 0) (h4 : nI k ≤ x) (hk5 : k ≤ 5) : MC (En l D t b L xs) MX5_solve 20 [.ref (q 0), .int x] (hw t q i a w) mc ms (rt (some (.int (stn (cpk (tfS (upd i 1 1) a n k k (tko (a 7) k) (-1, -1, a 8)).2.2 (tko (a 7) k) k) k))) (hs t q (upd i 1 1) a w (cpk (tfS (upd i 1 1) a n k k (tko (a 7) k) (-1, -1, a 8)).2.2 (tko (a 7) k) k) (tfS (upd i 1 1) a n k k (tko (a 7) k) (-1, -1, a 8))) mc ms) := by
  show MW _ _ _ 0 [some (.ref (q 0)), some (.int x)] [] _ _ _ _
  refine MW.iload_n dX5_solve_0 rfl ?_
  refine MW.iconst (v := 0) dX5_solve_1 (by decide) ?_
  refine MW.iconst (v := 5) dX5_solve_2 (by decide) ?_
  refine MW.callS0 fX5_solve_3 (c_rw_ok h1) rfl rfl rfl rfl (Nat.le_of_ble_eq_true rfl) ?_
  refine MW.aload_n dX5_solve_6 rfl ?_
  refine MW.callV0 fX5_solve_7 0 rfl (c_rs_ok h2) rfl rfl rfl rfl (Nat.le_of_ble_eq_true rfl) ?_
  refine MW.aload_n dX5_solve_10 rfl ?_
  refine MW.callV0 fX5_solve_11 0 rfl (c_rn_ok h3) rfl rfl rfl rfl (Nat.le_of_ble_eq_true rfl) ?_
  refine MW.aload_n dX5_solve_14 rfl ?_
  refine MW.aload_n dX5_solve_15 rfl ?_
  refine MW.getf fX5_solve_16 0 rfl rfl ?_
  refine MW.getf fX5_solve_19 1 rfl rfl ?_
  refine MW.iload_n dX5_solve_22 rfl ?_
  refine MW.icmp_gt 30 dX5_solve_23 (by decide) (fun hc23 => absurd hc23 (show ¬ x < i 3 by rw [hk]; exact Int32.not_lt.mpr h4)) (fun hc23 => ?_)
  refine MW.iconst (v := 1) dX5_solve_26 (by decide) ?_
  refine MW.goto 31 dX5_solve_27 (by decide) ?_
  refine MW.putf fX5_solve_31 0 rfl (rfl) (rfl) rfl ?_
  refine MW.heap hw_s5_4 ?_
  refine MW.aload_n dX5_solve_34 rfl ?_
  refine MW.getf fX5_solve_35 0 rfl rfl ?_
  refine MW.top (v' := .int 1) rfl ?_
  refine MW.if_eq 55 dX5_solve_38 (by decide) (fun hc38 => absurd hc38 (show ¬ (1 : Int32) = 0 by decide)) (fun hc38 => ?_)
  refine MW.aload_n dX5_solve_41 rfl ?_
  refine MW.getf fX5_solve_42 0 rfl rfl ?_
  refine MW.aload_n dX5_solve_45 rfl ?_
  refine MW.getf fX5_solve_46 0 rfl rfl ?_
  refine MW.callV0 fX5_solve_49 14 rfl (MC.up (show dp k 0 + 1 ≤ 19 by rw [dp_eq]; omega) (c_run (d := 0) (i := (upd i 1 1)) hk hk8 hk5 hn hn12)) rfl rfl rfl rfl (Nat.le_of_ble_eq_true rfl) ?_
  refine MW.goto 62 dX5_solve_52 (by decide) ?_
  refine MW.aload_n dX5_solve_62 rfl ?_
  refine MW.getf fX5_solve_63 0 rfl rfl ?_
  refine MW.callV1 fX5_solve_66 1 rfl (c_standing (i := upd (upd (upd i 1 1) 8 (tfS (upd i 1 1) a n k k (tko (a 7) k) (-1, -1, a 8)).1) 9 (tfS (upd i 1 1) a n k k (tko (a 7) k) (-1, -1, a 8)).2.1) (a := au (au a 7 (cpk (tfS (upd i 1 1) a n k k (tko (a 7) k) (-1, -1, a 8)).2.2 (tko (a 7) k) k)) 8 (tfS (upd i 1 1) a n k k (tko (a 7) k) (-1, -1, a 8)).2.2) hk hk8) rfl rfl rfl rfl (Nat.le_of_ble_eq_true rfl) ?_
  exact MW.ireturn dX5_solve_69 rfl (rfl) ⟨rfl, rfl, rfl, rfl⟩
set_option maxHeartbeats 2000000 in
theorem c_solve_r {k : Nat} (hk : i 3 = nI k) (hk8 : k ≤ 8) {n : Nat} (hn : i 2 = nI n) (hn12 : n ≤ 12) {x : Int32} (h1 : 0 ≤ x ∧ x ≤ 5) (h2 : i 0 = 0) (h3 : i 11 = 0) (h4 : ¬ nI k ≤ x) : MC (En l D t b L xs) MX5_solve 20 [.ref (q 0), .int x] (hw t q i a w) mc ms (rt (some (.int (stn (pbo a n k 9 (0, tko (a 7) k)).2 k))) (hw t q (upd i 1 0) (au a 7 (pbo a n k 9 (0, tko (a 7) k)).2) w) mc ms) := by
  show MW _ _ _ 0 [some (.ref (q 0)), some (.int x)] [] _ _ _ _
  refine MW.iload_n dX5_solve_0 rfl ?_
  refine MW.iconst (v := 0) dX5_solve_1 (by decide) ?_
  refine MW.iconst (v := 5) dX5_solve_2 (by decide) ?_
  refine MW.callS0 fX5_solve_3 (c_rw_ok h1) rfl rfl rfl rfl (Nat.le_of_ble_eq_true rfl) ?_
  refine MW.aload_n dX5_solve_6 rfl ?_
  refine MW.callV0 fX5_solve_7 0 rfl (c_rs_ok h2) rfl rfl rfl rfl (Nat.le_of_ble_eq_true rfl) ?_
  refine MW.aload_n dX5_solve_10 rfl ?_
  refine MW.callV0 fX5_solve_11 0 rfl (c_rn_ok h3) rfl rfl rfl rfl (Nat.le_of_ble_eq_true rfl) ?_
  refine MW.aload_n dX5_solve_14 rfl ?_
  refine MW.aload_n dX5_solve_15 rfl ?_
  refine MW.getf fX5_solve_16 0 rfl rfl ?_
  refine MW.getf fX5_solve_19 1 rfl rfl ?_
  refine MW.iload_n dX5_solve_22 rfl ?_
  refine MW.icmp_gt 30 dX5_solve_23 (by decide) (fun hc23 => ?_) (fun hc23 => absurd (show x < i 3 by rw [hk]; exact Int32.not_le.mp h4) hc23)
  refine MW.iconst (v := 0) dX5_solve_30 (by decide) ?_
  refine MW.putf fX5_solve_31 0 rfl (rfl) (rfl) rfl ?_
  refine MW.heap hw_s5_4 ?_
  refine MW.aload_n dX5_solve_34 rfl ?_
  refine MW.getf fX5_solve_35 0 rfl rfl ?_
  refine MW.top (v' := .int 0) rfl ?_
  refine MW.if_eq 55 dX5_solve_38 (by decide) (fun hc38 => ?_) (fun hc38 => absurd (show (0 : Int32) = 0 from rfl) hc38)
  refine MW.aload_n dX5_solve_55 rfl ?_
  refine MW.getf fX5_solve_56 0 rfl rfl ?_
  refine MW.callV0 fX5_solve_59 1 rfl (c_placeByRule (i := (upd i 1 0)) hk hk8 hn hn12) rfl rfl rfl rfl (Nat.le_of_ble_eq_true rfl) ?_
  refine MW.aload_n dX5_solve_62 rfl ?_
  refine MW.getf fX5_solve_63 0 rfl rfl ?_
  refine MW.callV1 fX5_solve_66 1 rfl (c_standing (i := (upd i 1 0)) (a := au a 7 (pbo a n k 9 (0, tko (a 7) k)).2) hk hk8) rfl rfl rfl rfl (Nat.le_of_ble_eq_true rfl) ?_
  exact MW.ireturn dX5_solve_69 rfl (rfl) ⟨rfl, rfl, rfl, rfl⟩
set_option maxHeartbeats 2000000 in
theorem c_exact (hb : i 1 = 0 ∨ i 1 = 1) : MC (En l D t b L xs) MX5_exact 20 [.ref (q 0)] (hw t q i a w) mc ms (rt (some (.int (i 1))) (hw t q i a w) mc ms) := by
  show MW _ _ _ 0 [some (.ref (q 0))] [] _ _ _ _
  refine MW.aload_n dX5_exact_0 rfl ?_
  refine MW.getf fX5_exact_1 0 rfl rfl ?_
  exact MW.ireturn dX5_exact_4 rfl (nar_b hb) rt_r
set_option maxHeartbeats 2000000 in
theorem c_bound {k : Nat} (hk : i 3 = nI k) (hk8 : k ≤ 8) {n : Nat} (hn : i 2 = nI n) (hn12 : n ≤ 12) : MC (En l D t b L xs) MX5_bound 20 [.ref (q 0)] (hw t q i a w) mc ms (rt (some (.int (mn (psn (fsP a n) k) (i 2)))) (hw t q i a w) mc ms) := by
  show MW _ _ _ 0 [some (.ref (q 0))] [] _ _ _ _
  refine MW.aload_n dX5_bound_0 rfl ?_
  refine MW.getf fX5_bound_1 0 rfl rfl ?_
  refine MW.callV1 fX5_bound_4 1 rfl (c_palletsWithSomeCell hk hk8 hn hn12) rfl rfl rfl rfl (Nat.le_of_ble_eq_true rfl) ?_
  refine MW.aload_n dX5_bound_7 rfl ?_
  refine MW.getf fX5_bound_8 0 rfl rfl ?_
  refine MW.getf fX5_bound_11 1 rfl rfl ?_
  refine MW.mmin dX5_bound_14 fX5_bound_14 wm_min1 wm_i wm_min2 (Nat.le_of_ble_eq_true rfl) ?_
  exact MW.ireturn dX5_bound_17 rfl (rfl) rt_r
set_option maxHeartbeats 2000000 in
theorem c_place_x0 {k : Nat} (hk : i 3 = nI k) (hk8 : k ≤ 8) {p c : Int32} (h1 : ¬ (0 ≤ p ∧ p < nI k)) (hmc : mc + 1 ≤ mi_CC) (hms : ms + 6 ≤ mi_CS) : MC (En l D t b L xs) MX5_place 20 [.ref (q 0), .int p, .int c] (hw t q i a w) mc ms (xt 0 (hw t q i a w) mc ms) := by
  show MW _ _ _ 0 [some (.ref (q 0)), some (.int p), some (.int c), none, none] [] _ _ _ _
  refine MW.aload_n dX5_place_0 rfl ?_
  refine MW.iload_n dX5_place_1 rfl ?_
  exact MW.thrV fX5_place_2 0 rfl (c_kp_no hk hk8 h1 hmc hms) rfl rfl rfl rfl (Nat.le_of_ble_eq_true rfl) rfl xt_r
set_option maxHeartbeats 2000000 in
theorem c_place_x1 {k : Nat} (hk : i 3 = nI k) (hk8 : k ≤ 8) {j : Nat} (hj : j < k) {c : Int32} (h2 : ¬ c = -1 ∧ ¬ (0 ≤ c ∧ c < i 2)) (hmc : mc + 1 ≤ mi_CC) (hms : ms + 6 ≤ mi_CS) : MC (En l D t b L xs) MX5_place 20 [.ref (q 0), .int (nI j), .int c] (hw t q i a w) mc ms (xt 1 (hw t q i a w) mc ms) := by
  show MW _ _ _ 0 [some (.ref (q 0)), some (.int (nI j)), some (.int c), none, none] [] _ _ _ _
  refine MW.aload_n dX5_place_0 rfl ?_
  refine MW.iload_n dX5_place_1 rfl ?_
  refine MW.callV1 fX5_place_2 0 rfl (c_kp_ok hk hk8 hj) rfl rfl rfl rfl (Nat.le_of_ble_eq_true rfl) ?_
  refine MW.astore_n dX5_place_5 rfl rfl ?_
  refine MW.iload_n dX5_place_6 rfl ?_
  refine MW.iconst (v := -1) dX5_place_7 (by decide) ?_
  refine MW.icmp_eq 32 dX5_place_8 (by decide) (fun hc8 => absurd hc8 h2.1) (fun hc8 => ?_)
  refine MW.aload_n dX5_place_11 rfl ?_
  refine MW.getf fX5_place_12 0 rfl rfl ?_
  refine MW.iload_n dX5_place_15 rfl ?_
  refine MW.callV1 fX5_place_16 1 rfl (c_hasCell) rfl rfl rfl rfl (Nat.le_of_ble_eq_true rfl) ?_
  refine MW.if_ne 32 dX5_place_19 (by decide) (fun hc19 => absurd (bI_0.mpr h2.2) hc19) (fun hc19 => ?_)
  exact MW.throwS fX5_place_22 (Nat.le_of_ble_eq_true rfl) hmc hms xt_r
set_option maxHeartbeats 2000000 in
theorem c_place_x2 {k : Nat} (hk : i 3 = nI k) (hk8 : k ≤ 8) {j : Nat} (hj : j < k) {c : Int32} (h2 : c = -1 ∨ (0 ≤ c ∧ c < i 2)) (h3 : i 0 = 0 ∨ ¬ i 11 = 0) (hmc : mc + 1 ≤ mi_CC) (hms : ms + 6 ≤ mi_CS) : MC (En l D t b L xs) MX5_place 20 [.ref (q 0), .int (nI j), .int c] (hw t q i a w) mc ms (xt 2 (hw t q i a w) mc ms) := by
  show MW _ _ _ 0 [some (.ref (q 0)), some (.int (nI j)), some (.int c), none, none] [] _ _ _ _
  refine MW.aload_n dX5_place_0 rfl ?_
  refine MW.iload_n dX5_place_1 rfl ?_
  refine MW.callV1 fX5_place_2 0 rfl (c_kp_ok hk hk8 hj) rfl rfl rfl rfl (Nat.le_of_ble_eq_true rfl) ?_
  refine MW.astore_n dX5_place_5 rfl rfl ?_
  refine MW.iload_n dX5_place_6 rfl ?_
  refine MW.iconst (v := -1) dX5_place_7 (by decide) ?_
  refine MW.icmp_eq 32 dX5_place_8 (by decide) (fun hc8 => ?_) (fun hc8 => ?_)
  · skip
    refine MW.aload_n dX5_place_32 rfl ?_
    refine MW.getf fX5_place_33 0 rfl rfl ?_
    refine MW.if_ne 49 dX5_place_36 (by decide) (fun hc36 => ?_) (fun hc36 => ?_)
    · skip
      refine MW.aload_n dX5_place_49 rfl ?_
      by_cases hq50 : i 11 = 0
      · skip
        refine MW.callV0 fX5_place_50 0 rfl (c_rn_ok hq50) rfl rfl rfl rfl (Nat.le_of_ble_eq_true rfl) ?_
        exact absurd hq50 (h3.resolve_left hc36)
      · skip
        exact MW.thrV fX5_place_50 0 rfl (c_rn_no hq50 hmc hms) rfl rfl rfl rfl (Nat.le_of_ble_eq_true rfl) rfl (by first | exact xt_r | exact absurd (bI_0.mp hc19) (fun z => z h2))
    · skip
      exact MW.throwS fX5_place_39 (Nat.le_of_ble_eq_true rfl) hmc hms (by first | exact xt_r | exact absurd (bI_0.mp hc19) (fun z => z h2))
  · skip
    have h2 := h2.resolve_left hc8
    refine MW.aload_n dX5_place_11 rfl ?_
    refine MW.getf fX5_place_12 0 rfl rfl ?_
    refine MW.iload_n dX5_place_15 rfl ?_
    refine MW.callV1 fX5_place_16 1 rfl (c_hasCell) rfl rfl rfl rfl (Nat.le_of_ble_eq_true rfl) ?_
    refine MW.if_ne 32 dX5_place_19 (by decide) (fun hc19 => ?_) (fun hc19 => ?_)
    · skip
      refine MW.aload_n dX5_place_32 rfl ?_
      refine MW.getf fX5_place_33 0 rfl rfl ?_
      refine MW.if_ne 49 dX5_place_36 (by decide) (fun hc36 => ?_) (fun hc36 => ?_)
      · skip
        refine MW.aload_n dX5_place_49 rfl ?_
        by_cases hq50 : i 11 = 0
        · skip
          refine MW.callV0 fX5_place_50 0 rfl (c_rn_ok hq50) rfl rfl rfl rfl (Nat.le_of_ble_eq_true rfl) ?_
          exact absurd hq50 (h3.resolve_left hc36)
        · skip
          exact MW.thrV fX5_place_50 0 rfl (c_rn_no hq50 hmc hms) rfl rfl rfl rfl (Nat.le_of_ble_eq_true rfl) rfl (by first | exact xt_r | exact absurd (bI_0.mp hc19) (fun z => z h2))
      · skip
        exact MW.throwS fX5_place_39 (Nat.le_of_ble_eq_true rfl) hmc hms (by first | exact xt_r | exact absurd (bI_0.mp hc19) (fun z => z h2))
    · skip
      exact MW.throwS fX5_place_22 (Nat.le_of_ble_eq_true rfl) hmc hms (by first | exact xt_r | exact absurd (bI_0.mp hc19) (fun z => z h2))
set_option maxHeartbeats 2000000 in
theorem c_place_out {k : Nat} (hk : i 3 = nI k) (hk8 : k ≤ 8) {j : Nat} (hj : j < k) (h3 : ¬ i 0 = 0) (h4 : i 11 = 0) : MC (En l D t b L xs) MX5_place 20 [.ref (q 0), .int (nI j), .int (-1)] (hw t q i a w) mc ms (rt (some (.int 0)) (hw t q i (au a 7 (upd (a 7) j (-1))) w) mc ms) := by
  show MW _ _ _ 0 [some (.ref (q 0)), some (.int (nI j)), some (.int (-1)), none, none] [] _ _ _ _
  refine MW.aload_n dX5_place_0 rfl ?_
  refine MW.iload_n dX5_place_1 rfl ?_
  refine MW.callV1 fX5_place_2 0 rfl (c_kp_ok hk hk8 hj) rfl rfl rfl rfl (Nat.le_of_ble_eq_true rfl) ?_
  refine MW.astore_n dX5_place_5 rfl rfl ?_
  refine MW.iload_n dX5_place_6 rfl ?_
  refine MW.iconst (v := -1) dX5_place_7 (by decide) ?_
  refine MW.icmp_eq 32 dX5_place_8 (by decide) (fun hc8 => ?_) (fun hc8 => absurd rfl hc8)
  refine MW.aload_n dX5_place_32 rfl ?_
  refine MW.getf fX5_place_33 0 rfl rfl ?_
  refine MW.if_ne 49 dX5_place_36 (by decide) (fun hc36 => ?_) (fun hc36 => absurd hc36 h3)
  refine MW.aload_n dX5_place_49 rfl ?_
  refine MW.callV0 fX5_place_50 0 rfl (c_rn_ok h4) rfl rfl rfl rfl (Nat.le_of_ble_eq_true rfl) ?_
  refine MW.iload_n dX5_place_53 rfl ?_
  refine MW.iconst (v := -1) dX5_place_54 (by decide) ?_
  refine MW.icmp_ne 62 dX5_place_55 (by decide) (fun hc55 => absurd rfl hc55) (fun hc55 => ?_)
  refine MW.iconst (v := 0) dX5_place_58 (by decide) ?_
  refine MW.goto 71 dX5_place_59 (by decide) ?_
  refine MW.istore dX5_place_71 rfl rfl ?_
  refine MW.iload dX5_place_73 rfl ?_
  refine MW.if_ne 83 dX5_place_75 (by decide) (fun hc75 => absurd rfl hc75) (fun hc75 => ?_)
  refine MW.aload_n dX5_place_78 rfl ?_
  refine MW.iload_n dX5_place_79 rfl ?_
  refine MW.pp5 fX5_place_80 (show j < 8 by omega) (rfl) (rfl) ?_
  refine MW.iload dX5_place_83 rfl ?_
  exact MW.ireturn dX5_place_85 rfl (rfl) rt_r
set_option maxHeartbeats 2000000 in
theorem c_place_in {k : Nat} (hk : i 3 = nI k) (hk8 : k ≤ 8) {n : Nat} (hn : i 2 = nI n) (hn12 : n ≤ 12) {j : Nat} (hj : j < k) {m : Nat} (hm : m < n) (h3 : ¬ i 0 = 0) (h4 : i 11 = 0) : MC (En l D t b L xs) MX5_place 20 [.ref (q 0), .int (nI j), .int (nI m)] (hw t q i a w) mc ms (rt (some (.int (fbx i a k j m))) (hw t q i (au a 7 (@ite (Nat → Int32) (fbx i a k j m = 0) inferInstance (upd (a 7) j (nI m)) (a 7))) w) mc ms) := by
  have hne : ¬ nI m = -1 := fun z => by have h9 := nI_pos (n := m) (by omega); rw [z] at h9; exact h9 (by decide)
  show MW _ _ _ 0 [some (.ref (q 0)), some (.int (nI j)), some (.int (nI m)), none, none] [] _ _ _ _
  refine MW.aload_n dX5_place_0 rfl ?_
  refine MW.iload_n dX5_place_1 rfl ?_
  refine MW.callV1 fX5_place_2 0 rfl (c_kp_ok hk hk8 hj) rfl rfl rfl rfl (Nat.le_of_ble_eq_true rfl) ?_
  refine MW.astore_n dX5_place_5 rfl rfl ?_
  refine MW.iload_n dX5_place_6 rfl ?_
  refine MW.iconst (v := -1) dX5_place_7 (by decide) ?_
  refine MW.icmp_eq 32 dX5_place_8 (by decide) (fun hc8 => absurd hc8 hne) (fun hc8 => ?_)
  refine MW.aload_n dX5_place_11 rfl ?_
  refine MW.getf fX5_place_12 0 rfl rfl ?_
  refine MW.iload_n dX5_place_15 rfl ?_
  refine MW.callV1 fX5_place_16 1 rfl (c_hasCell) rfl rfl rfl rfl (Nat.le_of_ble_eq_true rfl) ?_
  refine MW.if_ne 32 dX5_place_19 (by decide) (fun hc19 => ?_) (fun hc19 => absurd hc19 (fun z => zz z ⟨nI_pos' (by omega), by rw [hn]; exact nI_lt hm (by omega)⟩))
  refine MW.aload_n dX5_place_32 rfl ?_
  refine MW.getf fX5_place_33 0 rfl rfl ?_
  refine MW.if_ne 49 dX5_place_36 (by decide) (fun hc36 => ?_) (fun hc36 => absurd hc36 h3)
  refine MW.aload_n dX5_place_49 rfl ?_
  refine MW.callV0 fX5_place_50 0 rfl (c_rn_ok h4) rfl rfl rfl rfl (Nat.le_of_ble_eq_true rfl) ?_
  refine MW.iload_n dX5_place_53 rfl ?_
  refine MW.iconst (v := -1) dX5_place_54 (by decide) ?_
  refine MW.icmp_ne 62 dX5_place_55 (by decide) (fun hc55 => ?_) (fun hc55 => absurd hc55 hne)
  refine MW.aload_n dX5_place_62 rfl ?_
  refine MW.getf fX5_place_63 0 rfl rfl ?_
  refine MW.aload_n dX5_place_66 rfl ?_
  refine MW.iload_n dX5_place_67 rfl ?_
  refine MW.callV1 fX5_place_68 1 rfl (c_firstBar hk hk8 hn hn12 (show j < 8 by omega) hm) rfl rfl rfl rfl (Nat.le_of_ble_eq_true rfl) ?_
  refine MW.istore dX5_place_71 rfl rfl ?_
  refine MW.iload dX5_place_73 rfl ?_
  refine MW.if_ne 83 dX5_place_75 (by decide) (fun hc75 => ?_) (fun hc75 => ?_)
  · skip
    refine MW.iload dX5_place_83 rfl ?_
    exact MW.ireturn dX5_place_85 rfl (rfl) (by first | (rw [if_pos hc75]; exact ⟨rfl, rfl, rfl, rfl⟩) | (rw [if_neg hc75, au_self]; exact ⟨rfl, rfl, rfl, rfl⟩))
  · skip
    refine MW.aload_n dX5_place_78 rfl ?_
    refine MW.iload_n dX5_place_79 rfl ?_
    refine MW.pp5 fX5_place_80 (show j < 8 by omega) (rfl) (rfl) ?_
    refine MW.iload dX5_place_83 rfl ?_
    exact MW.ireturn dX5_place_85 rfl (rfl) (by first | (rw [if_pos hc75]; exact ⟨rfl, rfl, rfl, rfl⟩) | (rw [if_neg hc75, au_self]; exact ⟨rfl, rfl, rfl, rfl⟩))
set_option maxHeartbeats 2000000 in
theorem c_at_x0 {k : Nat} (hk : i 3 = nI k) (hk8 : k ≤ 8) {p : Int32} (h1 : ¬ (0 ≤ p ∧ p < nI k)) (hmc : mc + 1 ≤ mi_CC) (hms : ms + 6 ≤ mi_CS) : MC (En l D t b L xs) MX5_at 20 [.ref (q 0), .int p] (hw t q i a w) mc ms (xt 0 (hw t q i a w) mc ms) := by
  show MW _ _ _ 0 [some (.ref (q 0)), some (.int p)] [] _ _ _ _
  refine MW.aload_n dX5_at_0 rfl ?_
  refine MW.iload_n dX5_at_1 rfl ?_
  exact MW.thrV fX5_at_2 0 rfl (c_kp_no hk hk8 h1 hmc hms) rfl rfl rfl rfl (Nat.le_of_ble_eq_true rfl) rfl xt_r
set_option maxHeartbeats 2000000 in
theorem c_at_ok {k : Nat} (hk : i 3 = nI k) (hk8 : k ≤ 8) {j : Nat} (hj : j < k) : MC (En l D t b L xs) MX5_at 20 [.ref (q 0), .int (nI j)] (hw t q i a w) mc ms (rt (some (.int (a 7 j))) (hw t q i a w) mc ms) := by
  show MW _ _ _ 0 [some (.ref (q 0)), some (.int (nI j))] [] _ _ _ _
  refine MW.aload_n dX5_at_0 rfl ?_
  refine MW.iload_n dX5_at_1 rfl ?_
  refine MW.callV1 fX5_at_2 0 rfl (c_kp_ok hk hk8 hj) rfl rfl rfl rfl (Nat.le_of_ble_eq_true rfl) ?_
  refine MW.pg5 fX5_at_5 (show j < 8 by omega) ?_
  exact MW.ireturn dX5_at_8 rfl (rfl) rt_r
set_option maxHeartbeats 2000000 in
theorem c_bar_x0 {k : Nat} (hk : i 3 = nI k) (hk8 : k ≤ 8) {p : Int32} (h1 : ¬ (0 ≤ p ∧ p < nI k)) (hmc : mc + 1 ≤ mi_CC) (hms : ms + 6 ≤ mi_CS) : MC (En l D t b L xs) MX5_bar 20 [.ref (q 0), .int p] (hw t q i a w) mc ms (xt 0 (hw t q i a w) mc ms) := by
  show MW _ _ _ 0 [some (.ref (q 0)), some (.int p), none] [] _ _ _ _
  refine MW.aload_n dX5_bar_0 rfl ?_
  refine MW.iload_n dX5_bar_1 rfl ?_
  exact MW.thrV fX5_bar_2 0 rfl (c_kp_no hk hk8 h1 hmc hms) rfl rfl rfl rfl (Nat.le_of_ble_eq_true rfl) rfl xt_r
set_option maxHeartbeats 2000000 in
theorem c_bar_x2 {k : Nat} (hk : i 3 = nI k) (hk8 : k ≤ 8) {j : Nat} (hj : j < k) (h2 : ¬ a 7 j = -1) (hmc : mc + 1 ≤ mi_CC) (hms : ms + 6 ≤ mi_CS) : MC (En l D t b L xs) MX5_bar 20 [.ref (q 0), .int (nI j)] (hw t q i a w) mc ms (xt 2 (hw t q i a w) mc ms) := by
  show MW _ _ _ 0 [some (.ref (q 0)), some (.int (nI j)), none] [] _ _ _ _
  refine MW.aload_n dX5_bar_0 rfl ?_
  refine MW.iload_n dX5_bar_1 rfl ?_
  refine MW.callV1 fX5_bar_2 0 rfl (c_kp_ok hk hk8 hj) rfl rfl rfl rfl (Nat.le_of_ble_eq_true rfl) ?_
  refine MW.astore_n dX5_bar_5 rfl rfl ?_
  refine MW.aload_n dX5_bar_6 rfl ?_
  refine MW.callV1 fX5_bar_7 (6 + _) (hw_pal (show j < 8 by omega)) (c_stands (show j < 8 by omega)) rfl rfl rfl rfl (Nat.le_of_ble_eq_true rfl) ?_
  refine MW.if_eq 23 dX5_bar_10 (by decide) (fun hc10 => absurd hc10 (fun z => zz z h2)) (fun hc10 => ?_)
  exact MW.throwS fX5_bar_13 (Nat.le_of_ble_eq_true rfl) hmc hms xt_r
set_option maxHeartbeats 2000000 in
theorem c_bar_ok {k : Nat} (hk : i 3 = nI k) (hk8 : k ≤ 8) {n : Nat} (hn : i 2 = nI n) (hn12 : n ≤ 12) {j : Nat} (hj : j < k) (h2 : a 7 j = -1) : MC (En l D t b L xs) MX5_bar 20 [.ref (q 0), .int (nI j)] (hw t q i a w) mc ms (rt (some (.int (bfa (fbx i a k j) n 0 1))) (hw t q i a w) mc ms) := by
  show MW _ _ _ 0 [some (.ref (q 0)), some (.int (nI j)), none] [] _ _ _ _
  refine MW.aload_n dX5_bar_0 rfl ?_
  refine MW.iload_n dX5_bar_1 rfl ?_
  refine MW.callV1 fX5_bar_2 0 rfl (c_kp_ok hk hk8 hj) rfl rfl rfl rfl (Nat.le_of_ble_eq_true rfl) ?_
  refine MW.astore_n dX5_bar_5 rfl rfl ?_
  refine MW.aload_n dX5_bar_6 rfl ?_
  refine MW.callV1 fX5_bar_7 (6 + _) (hw_pal (show j < 8 by omega)) (c_stands (show j < 8 by omega)) rfl rfl rfl rfl (Nat.le_of_ble_eq_true rfl) ?_
  refine MW.if_eq 23 dX5_bar_10 (by decide) (fun hc10 => ?_) (fun hc10 => absurd (bI_0.mpr (fun z => z h2)) hc10)
  refine MW.aload_n dX5_bar_23 rfl ?_
  refine MW.getf fX5_bar_24 0 rfl rfl ?_
  refine MW.aload_n dX5_bar_27 rfl ?_
  refine MW.callV1 fX5_bar_28 1 rfl (c_barFromAllCells hk hk8 hn hn12 (show j < 8 by omega)) rfl rfl rfl rfl (Nat.le_of_ble_eq_true rfl) ?_
  exact MW.ireturn dX5_bar_31 rfl (rfl) rt_r
set_option maxHeartbeats 2000000 in
theorem c_change_x0 {k : Nat} (hk : i 3 = nI k) (hk8 : k ≤ 8) {p s : Int32} (h1 : ¬ (0 ≤ p ∧ p < nI k)) (hmc : mc + 1 ≤ mi_CC) (hms : ms + 6 ≤ mi_CS) : MC (En l D t b L xs) MX5_change 20 [.ref (q 0), .int p, .int s] (hw t q i a w) mc ms (xt 0 (hw t q i a w) mc ms) := by
  show MW _ _ _ 0 [some (.ref (q 0)), some (.int p), some (.int s), none] [] _ _ _ _
  refine MW.aload_n dX5_change_0 rfl ?_
  refine MW.iload_n dX5_change_1 rfl ?_
  exact MW.thrV fX5_change_2 0 rfl (c_kp_no hk hk8 h1 hmc hms) rfl rfl rfl rfl (Nat.le_of_ble_eq_true rfl) rfl xt_r
set_option maxHeartbeats 2000000 in
theorem c_change_x1 {k : Nat} (hk : i 3 = nI k) (hk8 : k ≤ 8) {j : Nat} (hj : j < k) {s : Int32} (h2 : ¬ (1 ≤ s ∧ s ≤ 9)) (hmc : mc + 1 ≤ mi_CC) (hms : ms + 6 ≤ mi_CS) : MC (En l D t b L xs) MX5_change 20 [.ref (q 0), .int (nI j), .int s] (hw t q i a w) mc ms (xt 1 (hw t q i a w) mc ms) := by
  show MW _ _ _ 0 [some (.ref (q 0)), some (.int (nI j)), some (.int s), none] [] _ _ _ _
  refine MW.aload_n dX5_change_0 rfl ?_
  refine MW.iload_n dX5_change_1 rfl ?_
  refine MW.callV1 fX5_change_2 0 rfl (c_kp_ok hk hk8 hj) rfl rfl rfl rfl (Nat.le_of_ble_eq_true rfl) ?_
  refine MW.astore_n dX5_change_5 rfl rfl ?_
  refine MW.iload_n dX5_change_6 rfl ?_
  refine MW.iconst (v := 1) dX5_change_7 (by decide) ?_
  refine MW.bipush (v := 9) dX5_change_8 (by decide) ?_
  exact MW.thrS fX5_change_10 (c_rw_no h2 hmc hms) rfl rfl rfl rfl (Nat.le_of_ble_eq_true rfl) rfl xt_r
set_option maxHeartbeats 2000000 in
theorem c_change_x2 {k : Nat} (hk : i 3 = nI k) (hk8 : k ≤ 8) {j : Nat} (hj : j < k) {s : Int32} (h2 : 1 ≤ s ∧ s ≤ 9) (h3 : ¬ i 0 = 0) (hmc : mc + 1 ≤ mi_CC) (hms : ms + 6 ≤ mi_CS) : MC (En l D t b L xs) MX5_change 20 [.ref (q 0), .int (nI j), .int s] (hw t q i a w) mc ms (xt 2 (hw t q i a w) mc ms) := by
  show MW _ _ _ 0 [some (.ref (q 0)), some (.int (nI j)), some (.int s), none] [] _ _ _ _
  refine MW.aload_n dX5_change_0 rfl ?_
  refine MW.iload_n dX5_change_1 rfl ?_
  refine MW.callV1 fX5_change_2 0 rfl (c_kp_ok hk hk8 hj) rfl rfl rfl rfl (Nat.le_of_ble_eq_true rfl) ?_
  refine MW.astore_n dX5_change_5 rfl rfl ?_
  refine MW.iload_n dX5_change_6 rfl ?_
  refine MW.iconst (v := 1) dX5_change_7 (by decide) ?_
  refine MW.bipush (v := 9) dX5_change_8 (by decide) ?_
  refine MW.callS0 fX5_change_10 (c_rw_ok h2) rfl rfl rfl rfl (Nat.le_of_ble_eq_true rfl) ?_
  refine MW.aload_n dX5_change_13 rfl ?_
  exact MW.thrV fX5_change_14 0 rfl (c_rs_no h3 hmc hms) rfl rfl rfl rfl (Nat.le_of_ble_eq_true rfl) rfl xt_r
set_option maxHeartbeats 2000000 in
theorem c_change_ok {k : Nat} (hk : i 3 = nI k) (hk8 : k ≤ 8) {j : Nat} (hj : j < k) {s : Int32} (h2 : 1 ≤ s ∧ s ≤ 9) (h3 : i 0 = 0) : MC (En l D t b L xs) MX5_change 20 [.ref (q 0), .int (nI j), .int s] (hw t q i a w) mc ms (rt (some (.int (bI (¬ (¬ a 7 j = -1 ∧ spP (a 5) (a 7) k j s (a 7 j)))))) (hw t q i (au a 5 (cS (¬ a 7 j = -1 ∧ spP (a 5) (a 7) k j s (a 7 j)) (a 5) (upd (a 5) j s))) w) mc ms) := by
  show MW _ _ _ 0 [some (.ref (q 0)), some (.int (nI j)), some (.int s), none] [] _ _ _ _
  refine MW.aload_n dX5_change_0 rfl ?_
  refine MW.iload_n dX5_change_1 rfl ?_
  refine MW.callV1 fX5_change_2 0 rfl (c_kp_ok hk hk8 hj) rfl rfl rfl rfl (Nat.le_of_ble_eq_true rfl) ?_
  refine MW.astore_n dX5_change_5 rfl rfl ?_
  refine MW.iload_n dX5_change_6 rfl ?_
  refine MW.iconst (v := 1) dX5_change_7 (by decide) ?_
  refine MW.bipush (v := 9) dX5_change_8 (by decide) ?_
  refine MW.callS0 fX5_change_10 (c_rw_ok h2) rfl rfl rfl rfl (Nat.le_of_ble_eq_true rfl) ?_
  refine MW.aload_n dX5_change_13 rfl ?_
  refine MW.callV0 fX5_change_14 0 rfl (c_rs_ok h3) rfl rfl rfl rfl (Nat.le_of_ble_eq_true rfl) ?_
  refine MW.aload_n dX5_change_17 rfl ?_
  refine MW.callV1 fX5_change_18 (6 + _) (hw_pal (show j < 8 by omega)) (c_stands (show j < 8 by omega)) rfl rfl rfl rfl (Nat.le_of_ble_eq_true rfl) ?_
  refine MW.if_eq 42 dX5_change_21 (by decide) (fun hc21 => ?_) (fun hc21 => ?_)
  · skip
    refine MW.aload_n dX5_change_42 rfl ?_
    refine MW.iload_n dX5_change_43 rfl ?_
    refine MW.pp3 fX5_change_44 (show j < 8 by omega) (rfl) (rfl) ?_
    refine MW.iconst (v := 1) dX5_change_47 (by decide) ?_
    exact MW.ireturn dX5_change_48 rfl (rfl) (by first | (rw [cS_f (fun z : (¬ a 7 j = -1 ∧ spP (a 5) (a 7) k j s (a 7 j)) => zz hc21 z.1)]; exact rtb_t (fun z => zz hc21 z.1)) | (rw [cS_f (fun z : (¬ a 7 j = -1 ∧ spP (a 5) (a 7) k j s (a 7 j)) => zz hc37 z.2)]; exact rtb_t (fun z => zz hc37 z.2)))
  · skip
    refine MW.aload_n dX5_change_24 rfl ?_
    refine MW.getf fX5_change_25 0 rfl rfl ?_
    refine MW.aload_n dX5_change_28 rfl ?_
    refine MW.iload_n dX5_change_29 rfl ?_
    refine MW.aload_n dX5_change_30 rfl ?_
    refine MW.pg5 fX5_change_31 (show j < 8 by omega) ?_
    refine MW.callV1 fX5_change_34 1 rfl (c_stopsBar hk hk8 (show j < 8 by omega)) rfl rfl rfl rfl (Nat.le_of_ble_eq_true rfl) ?_
    refine MW.if_eq 42 dX5_change_37 (by decide) (fun hc37 => ?_) (fun hc37 => ?_)
    · skip
      refine MW.aload_n dX5_change_42 rfl ?_
      refine MW.iload_n dX5_change_43 rfl ?_
      refine MW.pp3 fX5_change_44 (show j < 8 by omega) (rfl) (rfl) ?_
      refine MW.iconst (v := 1) dX5_change_47 (by decide) ?_
      exact MW.ireturn dX5_change_48 rfl (rfl) (by first | (rw [cS_f (fun z : (¬ a 7 j = -1 ∧ spP (a 5) (a 7) k j s (a 7 j)) => zz hc21 z.1)]; exact rtb_t (fun z => zz hc21 z.1)) | (rw [cS_f (fun z : (¬ a 7 j = -1 ∧ spP (a 5) (a 7) k j s (a 7 j)) => zz hc37 z.2)]; exact rtb_t (fun z => zz hc37 z.2)))
    · skip
      refine MW.iconst (v := 0) dX5_change_40 (by decide) ?_
      exact MW.ireturn dX5_change_41 rfl (rfl) (by rw [cS_t ⟨nz hc21, nz hc37⟩, au_self]; exact rtb_f (fun z => z ⟨nz hc21, nz hc37⟩))
set_option maxHeartbeats 2000000 in
theorem c_doors_x2 {o : Int32} (h1 : ¬ o = 0) (h2 : ¬ i 11 = 0) (hmc : mc + 1 ≤ mi_CC) (hms : ms + 6 ≤ mi_CS) : MC (En l D t b L xs) MX5_doors 20 [.ref (q 0), .int o] (hw t q i a w) mc ms (xt 2 (hw t q i a w) mc ms) := by
  show MW _ _ _ 0 [some (.ref (q 0)), some (.int o), none] [] _ _ _ _
  refine MW.iload_n dX5_doors_0 rfl ?_
  refine MW.if_eq 8 dX5_doors_1 (by decide) (fun hc1 => absurd hc1 h1) (fun hc1 => ?_)
  refine MW.aload_n dX5_doors_4 rfl ?_
  exact MW.thrV fX5_doors_5 0 rfl (c_rn_no h2 hmc hms) rfl rfl rfl rfl (Nat.le_of_ble_eq_true rfl) rfl xt_r
set_option maxHeartbeats 2000000 in
theorem c_doors_ok {o : Int32} (ho : o = 0 ∨ o = 1) (hb : i 0 = 0 ∨ i 0 = 1) (h1 : o = 0 ∨ i 11 = 0) : MC (En l D t b L xs) MX5_doors 20 [.ref (q 0), .int o] (hw t q i a w) mc ms (rt (some (.int (i 0))) (hw t q (upd i 0 o) a w) mc ms) := by
  show MW _ _ _ 0 [some (.ref (q 0)), some (.int o), none] [] _ _ _ _
  refine MW.iload_n dX5_doors_0 rfl ?_
  refine MW.if_eq 8 dX5_doors_1 (by decide) (fun hc1 => ?_) (fun hc1 => ?_)
  · skip
    refine MW.aload_n dX5_doors_8 rfl ?_
    refine MW.getf fX5_doors_9 0 rfl rfl ?_
    refine MW.istore_n dX5_doors_12 rfl rfl ?_
    refine MW.aload_n dX5_doors_13 rfl ?_
    refine MW.iload_n dX5_doors_14 rfl ?_
    refine MW.putf fX5_doors_15 0 rfl (nar_b ho) (fit_b ho) rfl ?_
    refine MW.heap hw_s5_3 ?_
    refine MW.iload_n dX5_doors_18 rfl ?_
    exact MW.ireturn dX5_doors_19 rfl (nar_b hb) rt_r
  · skip
    refine MW.aload_n dX5_doors_4 rfl ?_
    refine MW.callV0 fX5_doors_5 0 rfl (c_rn_ok (h1.resolve_left hc1)) rfl rfl rfl rfl (Nat.le_of_ble_eq_true rfl) ?_
    refine MW.aload_n dX5_doors_8 rfl ?_
    refine MW.getf fX5_doors_9 0 rfl rfl ?_
    refine MW.istore_n dX5_doors_12 rfl rfl ?_
    refine MW.aload_n dX5_doors_13 rfl ?_
    refine MW.iload_n dX5_doors_14 rfl ?_
    refine MW.putf fX5_doors_15 0 rfl (nar_b ho) (fit_b ho) rfl ?_
    refine MW.heap hw_s5_3 ?_
    refine MW.iload_n dX5_doors_18 rfl ?_
    exact MW.ireturn dX5_doors_19 rfl (nar_b hb) rt_r
set_option maxHeartbeats 2000000 in
theorem c_seal_x1 {x : Int32} (h1 : ¬ (1 ≤ x ∧ x ≤ 1000000)) (hmc : mc + 1 ≤ mi_CC) (hms : ms + 6 ≤ mi_CS) : MC (En l D t b L xs) MX5_seal 20 [.ref (q 0), .int x] (hw t q i a w) mc ms (xt 1 (hw t q i a w) mc ms) := by
  show MW _ _ _ 0 [some (.ref (q 0)), some (.int x)] [] _ _ _ _
  refine MW.iload_n dX5_seal_0 rfl ?_
  refine MW.iconst (v := 1) dX5_seal_1 (by decide) ?_
  refine MW.ldc dX5_seal_2 fX5_seal_2 ?_
  exact MW.thrS fX5_seal_4 (c_rw_no h1 hmc hms) rfl rfl rfl rfl (Nat.le_of_ble_eq_true rfl) rfl xt_r
set_option maxHeartbeats 2000000 in
theorem c_seal_x2 {x : Int32} (h1 : 1 ≤ x ∧ x ≤ 1000000) (h2 : ¬ i 0 = 0 ∨ ¬ i 11 = 0) (hmc : mc + 1 ≤ mi_CC) (hms : ms + 6 ≤ mi_CS) : MC (En l D t b L xs) MX5_seal 20 [.ref (q 0), .int x] (hw t q i a w) mc ms (xt 2 (hw t q i a w) mc ms) := by
  show MW _ _ _ 0 [some (.ref (q 0)), some (.int x)] [] _ _ _ _
  refine MW.iload_n dX5_seal_0 rfl ?_
  refine MW.iconst (v := 1) dX5_seal_1 (by decide) ?_
  refine MW.ldc dX5_seal_2 fX5_seal_2 ?_
  refine MW.callS0 fX5_seal_4 (c_rw_ok h1) rfl rfl rfl rfl (Nat.le_of_ble_eq_true rfl) ?_
  refine MW.aload_n dX5_seal_7 rfl ?_
  by_cases hq8 : i 0 = 0
  · skip
    refine MW.callV0 fX5_seal_8 0 rfl (c_rs_ok hq8) rfl rfl rfl rfl (Nat.le_of_ble_eq_true rfl) ?_
    refine MW.aload_n dX5_seal_11 rfl ?_
    by_cases hq12 : i 11 = 0
    · skip
      refine MW.callV0 fX5_seal_12 0 rfl (c_rn_ok hq12) rfl rfl rfl rfl (Nat.le_of_ble_eq_true rfl) ?_
      exact absurd hq12 (h2.elim (fun z => absurd hq8 z) id)
    · skip
      exact MW.thrV fX5_seal_12 0 rfl (c_rn_no hq12 hmc hms) rfl rfl rfl rfl (Nat.le_of_ble_eq_true rfl) rfl xt_r
  · skip
    exact MW.thrV fX5_seal_8 0 rfl (c_rs_no hq8 hmc hms) rfl rfl rfl rfl (Nat.le_of_ble_eq_true rfl) rfl xt_r
set_option maxHeartbeats 2000000 in
theorem c_seal_x3 {x : Int32} (h1 : 1 ≤ x ∧ x ≤ 1000000) (h2 : i 0 = 0) (h3 : i 11 = 0) (h4 : i 10 = 10) (hmc : mc + 1 ≤ mi_CC) (hms : ms + 6 ≤ mi_CS) : MC (En l D t b L xs) MX5_seal 20 [.ref (q 0), .int x] (hw t q i a w) mc ms (xt 3 (hw t q i a w) mc ms) := by
  show MW _ _ _ 0 [some (.ref (q 0)), some (.int x)] [] _ _ _ _
  refine MW.iload_n dX5_seal_0 rfl ?_
  refine MW.iconst (v := 1) dX5_seal_1 (by decide) ?_
  refine MW.ldc dX5_seal_2 fX5_seal_2 ?_
  refine MW.callS0 fX5_seal_4 (c_rw_ok h1) rfl rfl rfl rfl (Nat.le_of_ble_eq_true rfl) ?_
  refine MW.aload_n dX5_seal_7 rfl ?_
  refine MW.callV0 fX5_seal_8 0 rfl (c_rs_ok h2) rfl rfl rfl rfl (Nat.le_of_ble_eq_true rfl) ?_
  refine MW.aload_n dX5_seal_11 rfl ?_
  refine MW.callV0 fX5_seal_12 0 rfl (c_rn_ok h3) rfl rfl rfl rfl (Nat.le_of_ble_eq_true rfl) ?_
  refine MW.aload_n dX5_seal_15 rfl ?_
  refine MW.getf fX5_seal_16 0 rfl rfl ?_
  refine MW.getf fX5_seal_19 16 rfl rfl ?_
  refine MW.bipush (v := 10) dX5_seal_22 (by decide) ?_
  refine MW.icmp_lt 37 dX5_seal_24 (by decide) (fun hc24 => absurd hc24 (show ¬ i 10 < 10 by rw [h4]; decide)) (fun hc24 => ?_)
  exact MW.throwS fX5_seal_27 (Nat.le_of_ble_eq_true rfl) hmc hms xt_r
set_option maxHeartbeats 2000000 in
theorem c_seal_no {g : Nat} (hg : i 10 = nI g) (hg10 : g ≤ 10) (hg9 : g < 10) {x : Int32} (h1 : 1 ≤ x ∧ x ≤ 1000000) (h2 : i 0 = 0) (h3 : i 11 = 0) (h4 : ∃ m, m < g ∧ a 9 m = x) : MC (En l D t b L xs) MX5_seal 20 [.ref (q 0), .int x] (hw t q i a w) mc ms (rt (some (.int 0)) (hw t q i a w) mc ms) := by
  show MW _ _ _ 0 [some (.ref (q 0)), some (.int x)] [] _ _ _ _
  refine MW.iload_n dX5_seal_0 rfl ?_
  refine MW.iconst (v := 1) dX5_seal_1 (by decide) ?_
  refine MW.ldc dX5_seal_2 fX5_seal_2 ?_
  refine MW.callS0 fX5_seal_4 (c_rw_ok h1) rfl rfl rfl rfl (Nat.le_of_ble_eq_true rfl) ?_
  refine MW.aload_n dX5_seal_7 rfl ?_
  refine MW.callV0 fX5_seal_8 0 rfl (c_rs_ok h2) rfl rfl rfl rfl (Nat.le_of_ble_eq_true rfl) ?_
  refine MW.aload_n dX5_seal_11 rfl ?_
  refine MW.callV0 fX5_seal_12 0 rfl (c_rn_ok h3) rfl rfl rfl rfl (Nat.le_of_ble_eq_true rfl) ?_
  refine MW.aload_n dX5_seal_15 rfl ?_
  refine MW.getf fX5_seal_16 0 rfl rfl ?_
  refine MW.getf fX5_seal_19 16 rfl rfl ?_
  refine MW.bipush (v := 10) dX5_seal_22 (by decide) ?_
  refine MW.icmp_lt 37 dX5_seal_24 (by decide) (fun hc24 => ?_) (fun hc24 => absurd (show i 10 < 10 by rw [hg]; exact nI_lt (b := 10) hg9 (by omega)) hc24)
  refine MW.aload_n dX5_seal_37 rfl ?_
  refine MW.getf fX5_seal_38 0 rfl rfl ?_
  refine MW.iload_n dX5_seal_41 rfl ?_
  refine MW.callV1 fX5_seal_42 16 rfl (c_wasOn hg hg10) rfl rfl rfl rfl (Nat.le_of_ble_eq_true rfl) ?_
  refine MW.if_eq 50 dX5_seal_45 (by decide) (fun hc45 => absurd hc45 (fun z => zz z h4)) (fun hc45 => ?_)
  refine MW.iconst (v := 0) dX5_seal_48 (by decide) ?_
  exact MW.ireturn dX5_seal_49 rfl (rfl) rt_r
set_option maxHeartbeats 2000000 in
theorem c_seal_ok {g : Nat} (hg : i 10 = nI g) (hg10 : g ≤ 10) (hg9 : g < 10) {x : Int32} (h1 : 1 ≤ x ∧ x ≤ 1000000) (h2 : i 0 = 0) (h3 : i 11 = 0) (h4 : ¬ ∃ m, m < g ∧ a 9 m = x) : MC (En l D t b L xs) MX5_seal 20 [.ref (q 0), .int x] (hw t q i a w) mc ms (rt (some (.int 1)) (hw t q (upd (upd i 10 (nI (g + 1))) 11 x) (au a 9 (upd (a 9) g x)) w) mc ms) := by
  show MW _ _ _ 0 [some (.ref (q 0)), some (.int x)] [] _ _ _ _
  refine MW.iload_n dX5_seal_0 rfl ?_
  refine MW.iconst (v := 1) dX5_seal_1 (by decide) ?_
  refine MW.ldc dX5_seal_2 fX5_seal_2 ?_
  refine MW.callS0 fX5_seal_4 (c_rw_ok h1) rfl rfl rfl rfl (Nat.le_of_ble_eq_true rfl) ?_
  refine MW.aload_n dX5_seal_7 rfl ?_
  refine MW.callV0 fX5_seal_8 0 rfl (c_rs_ok h2) rfl rfl rfl rfl (Nat.le_of_ble_eq_true rfl) ?_
  refine MW.aload_n dX5_seal_11 rfl ?_
  refine MW.callV0 fX5_seal_12 0 rfl (c_rn_ok h3) rfl rfl rfl rfl (Nat.le_of_ble_eq_true rfl) ?_
  refine MW.aload_n dX5_seal_15 rfl ?_
  refine MW.getf fX5_seal_16 0 rfl rfl ?_
  refine MW.getf fX5_seal_19 16 rfl rfl ?_
  refine MW.bipush (v := 10) dX5_seal_22 (by decide) ?_
  refine MW.icmp_lt 37 dX5_seal_24 (by decide) (fun hc24 => ?_) (fun hc24 => absurd (show i 10 < 10 by rw [hg]; exact nI_lt (b := 10) hg9 (by omega)) hc24)
  refine MW.aload_n dX5_seal_37 rfl ?_
  refine MW.getf fX5_seal_38 0 rfl rfl ?_
  refine MW.iload_n dX5_seal_41 rfl ?_
  refine MW.callV1 fX5_seal_42 16 rfl (c_wasOn hg hg10) rfl rfl rfl rfl (Nat.le_of_ble_eq_true rfl) ?_
  refine MW.if_eq 50 dX5_seal_45 (by decide) (fun hc45 => ?_) (fun hc45 => absurd (bI_0.mpr h4) hc45)
  refine MW.aload_n dX5_seal_50 rfl ?_
  refine MW.getf fX5_seal_51 0 rfl rfl ?_
  refine MW.iload_n dX5_seal_54 rfl ?_
  refine MW.callV0 fX5_seal_55 16 rfl (c_putOn hg hg10 hg9) rfl rfl rfl rfl (Nat.le_of_ble_eq_true rfl) ?_
  refine MW.iconst (v := 1) dX5_seal_58 (by decide) ?_
  exact MW.ireturn dX5_seal_59 rfl (rfl) rt_r
set_option maxHeartbeats 2000000 in
theorem c_broken_x2 (h1 : i 11 = 0) (hmc : mc + 1 ≤ mi_CC) (hms : ms + 6 ≤ mi_CS) : MC (En l D t b L xs) MX5_broken 20 [.ref (q 0)] (hw t q i a w) mc ms (xt 2 (hw t q i a w) mc ms) := by
  show MW _ _ _ 0 [some (.ref (q 0))] [] _ _ _ _
  refine MW.aload_n dX5_broken_0 rfl ?_
  refine MW.getf fX5_broken_1 0 rfl rfl ?_
  refine MW.callV1 fX5_broken_4 16 rfl (c_isOn) rfl rfl rfl rfl (Nat.le_of_ble_eq_true rfl) ?_
  refine MW.if_ne 20 dX5_broken_7 (by decide) (fun hc7 => absurd (bI_0.mpr (fun z => z h1)) hc7) (fun hc7 => ?_)
  exact MW.throwS fX5_broken_10 (Nat.le_of_ble_eq_true rfl) hmc hms xt_r
set_option maxHeartbeats 2000000 in
theorem c_broken_ok (h1 : ¬ i 11 = 0) : MC (En l D t b L xs) MX5_broken 20 [.ref (q 0)] (hw t q i a w) mc ms (rt (some (.int (i 11))) (hw t q (upd i 11 0) a w) mc ms) := by
  show MW _ _ _ 0 [some (.ref (q 0))] [] _ _ _ _
  refine MW.aload_n dX5_broken_0 rfl ?_
  refine MW.getf fX5_broken_1 0 rfl rfl ?_
  refine MW.callV1 fX5_broken_4 16 rfl (c_isOn) rfl rfl rfl rfl (Nat.le_of_ble_eq_true rfl) ?_
  refine MW.if_ne 20 dX5_broken_7 (by decide) (fun hc7 => ?_) (fun hc7 => absurd hc7 (fun z => zz z h1))
  refine MW.aload_n dX5_broken_20 rfl ?_
  refine MW.getf fX5_broken_21 0 rfl rfl ?_
  refine MW.callV1 fX5_broken_24 16 rfl (c_takeOff) rfl rfl rfl rfl (Nat.le_of_ble_eq_true rfl) ?_
  exact MW.ireturn dX5_broken_27 rfl (rfl) rt_r
set_option maxHeartbeats 2000000 in
theorem c_order_x1 {s x : Int32} (h1 : ¬ ((1 ≤ s ∧ s ≤ 9) ∧ 0 ≤ x)) (hmc : mc + 1 ≤ mi_CC) (hms : ms + 6 ≤ mi_CS) : MC (En l D t b L xs) MX5_order 20 [.ref (q 0), .int s, .int x] (hw t q i a w) mc ms (xt 1 (hw t q i a w) mc ms) := by
  show MW _ _ _ 0 [some (.ref (q 0)), some (.int s), some (.int x)] [] _ _ _ _
  refine MW.iload_n dX5_order_0 rfl ?_
  refine MW.iconst (v := 1) dX5_order_1 (by decide) ?_
  refine MW.bipush (v := 9) dX5_order_2 (by decide) ?_
  by_cases hq4 : 1 ≤ s ∧ s ≤ 9
  · skip
    refine MW.callS0 fX5_order_4 (c_rw_ok hq4) rfl rfl rfl rfl (Nat.le_of_ble_eq_true rfl) ?_
    refine MW.iload_n dX5_order_7 rfl ?_
    refine MW.if_ge 21 dX5_order_8 (by decide) (fun hc8 => absurd hc8 (fun z => h1 ⟨hq4, z⟩)) (fun hc8 => ?_)
    exact MW.throwS fX5_order_11 (Nat.le_of_ble_eq_true rfl) hmc hms xt_r
  · skip
    exact MW.thrS fX5_order_4 (c_rw_no hq4 hmc hms) rfl rfl rfl rfl (Nat.le_of_ble_eq_true rfl) rfl xt_r
set_option maxHeartbeats 2000000 in
theorem c_order_ok {k : Nat} (hk : i 3 = nI k) (hk8 : k ≤ 8) {n : Nat} (hn : i 2 = nI n) (hn12 : n ≤ 12) {s x : Int32} (h1 : (1 ≤ s ∧ s ≤ 9) ∧ 0 ≤ x) : MC (En l D t b L xs) MX5_order 20 [.ref (q 0), .int s, .int x] (hw t q i a w) mc ms (rt (some (.int (fdr (fun m => sfr (fun p => a 7 p = nI m ∧ a 5 p = s) k 0) x n 0))) (hw t q i a w) mc ms) := by
  show MW _ _ _ 0 [some (.ref (q 0)), some (.int s), some (.int x)] [] _ _ _ _
  refine MW.iload_n dX5_order_0 rfl ?_
  refine MW.iconst (v := 1) dX5_order_1 (by decide) ?_
  refine MW.bipush (v := 9) dX5_order_2 (by decide) ?_
  refine MW.callS0 fX5_order_4 (c_rw_ok h1.1) rfl rfl rfl rfl (Nat.le_of_ble_eq_true rfl) ?_
  refine MW.iload_n dX5_order_7 rfl ?_
  refine MW.if_ge 21 dX5_order_8 (by decide) (fun hc8 => ?_) (fun hc8 => absurd h1.2 hc8)
  refine MW.aload_n dX5_order_21 rfl ?_
  refine MW.getf fX5_order_22 0 rfl rfl ?_
  refine MW.iload_n dX5_order_25 rfl ?_
  refine MW.iload_n dX5_order_26 rfl ?_
  refine MW.callV1 fX5_order_27 1 rfl (c_fromDoors hk hk8 hn hn12) rfl rfl rfl rfl (Nat.le_of_ble_eq_true rfl) ?_
  exact MW.ireturn dX5_order_30 rfl (rfl) rt_r
set_option maxHeartbeats 2000000 in
theorem c_manifest_x1 {x : Int32} (h1 : ¬ (0 ≤ x ∧ x ≤ 10000)) (hmc : mc + 1 ≤ mi_CC) (hms : ms + 6 ≤ mi_CS) : MC (En l D t b L xs) MX5_manifest 20 [.ref (q 0), .int x] (hw t q i a w) mc ms (xt 1 (hw t q i a w) mc ms) := by
  show MW _ _ _ 0 [some (.ref (q 0)), some (.int x)] [] _ _ _ _
  refine MW.iload_n dX5_manifest_0 rfl ?_
  refine MW.iconst (v := 0) dX5_manifest_1 (by decide) ?_
  refine MW.sipush (v := 10000) dX5_manifest_2 (by decide) ?_
  exact MW.thrS fX5_manifest_5 (c_rw_no h1 hmc hms) rfl rfl rfl rfl (Nat.le_of_ble_eq_true rfl) rfl xt_r
set_option maxHeartbeats 2000000 in
theorem c_manifest_ok {k : Nat} (hk : i 3 = nI k) (hk8 : k ≤ 8) {x : Int32} (h1 : 0 ≤ x ∧ x ≤ 10000) : MC (En l D t b L xs) MX5_manifest 20 [.ref (q 0), .int x] (hw t q i a w) mc ms (rt (some (.int (x - wtn (a 2) (a 7) k))) (hw t q i a w) mc ms) := by
  show MW _ _ _ 0 [some (.ref (q 0)), some (.int x)] [] _ _ _ _
  refine MW.iload_n dX5_manifest_0 rfl ?_
  refine MW.iconst (v := 0) dX5_manifest_1 (by decide) ?_
  refine MW.sipush (v := 10000) dX5_manifest_2 (by decide) ?_
  refine MW.callS0 fX5_manifest_5 (c_rw_ok h1) rfl rfl rfl rfl (Nat.le_of_ble_eq_true rfl) ?_
  refine MW.iload_n dX5_manifest_8 rfl ?_
  refine MW.aload_n dX5_manifest_9 rfl ?_
  refine MW.getf fX5_manifest_10 0 rfl rfl ?_
  refine MW.callV1 fX5_manifest_13 1 rfl (c_weight hk hk8) rfl rfl rfl rfl (Nat.le_of_ble_eq_true rfl) ?_
  refine MW.isub dX5_manifest_16 ?_
  exact MW.ireturn dX5_manifest_17 rfl (rfl) rt_r
end Face2
