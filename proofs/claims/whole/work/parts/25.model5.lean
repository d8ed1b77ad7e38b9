theorem le_pred {c : Int32} {n : Nat} (hn : n < 2 ^ 30) : c ≤ nI n - 1 ↔ c < nI n := by
  have e1 := pk_sub_toInt (a := n) (b := 1) hn (by omega)
  have e2 : (nI n - 1).toInt = (n : Int) - 1 := e1
  rw [Int32.le_iff_toInt_le, Int32.lt_iff_toInt_lt, e2, nI_toInt (by omega)]
  omega
theorem m1_of {c : Int32} {n : Nat} (hn : n < 2 ^ 30) (h : c = -1 ∨ (0 ≤ c ∧ c < nI n)) : -1 ≤ c ∧ c ≤ nI n - 1 := by
  rcases h with rfl | ⟨h1, h2⟩
  · refine ⟨Int32.le_refl _, (le_pred hn).mpr ?_⟩
    exact Int32.lt_of_lt_of_le (show (-1 : Int32) < 0 by decide) (nI_pos' (by omega))
  · exact ⟨Int32.le_trans (show (-1 : Int32) ≤ 0 by decide) h1, (le_pred hn).mpr h2⟩
theorem m1_in {c : Int32} {n : Nat} (hn : n < 2 ^ 30) (h : -1 ≤ c ∧ c ≤ nI n - 1) : c = -1 ∨ (0 ≤ c ∧ c < nI n) := by
  by_cases h0 : 0 ≤ c
  · exact Or.inr ⟨h0, (le_pred hn).mp h.2⟩
  · left
    have h1 := Int32.le_iff_toInt_le.mp h.1
    have h2 : ¬ (0 : Int32).toInt ≤ c.toInt := fun z => h0 (Int32.le_iff_toInt_le.mpr z)
    have e1 : (-1 : Int32).toInt = -1 := by decide
    have e0 : (0 : Int32).toInt = 0 := by decide
    apply Int32.toInt_inj.mp
    rw [e1] at h1 ⊢
    rw [e0] at h2
    omega
theorem sfr_no {p : Nat → Prop} : ∀ (r j : Nat), j + r < 2 ^ 31 → (sfr p r j = -1 ↔ ¬ ∃ m, j ≤ m ∧ m < j + r ∧ p m) := by
  intro r
  induction r with
  | zero => intro j hj; exact ⟨fun _ ⟨m, h1, h2, _⟩ => absurd h2 (by omega), fun _ => rfl⟩
  | succ r ih =>
    intro j hj
    by_cases hp : p j
    · rw [show sfr p (r + 1) j = nI j from cI_t hp]
      exact ⟨fun z => absurd z (nI_m1 (by omega)), fun z => absurd ⟨j, Nat.le_refl _, by omega, hp⟩ z⟩
    · rw [show sfr p (r + 1) j = sfr p r (j + 1) from cI_f hp, ih (j + 1) (by omega)]
      constructor
      · rintro z ⟨m, h1, h2, h3⟩
        rcases Nat.eq_or_lt_of_le h1 with rfl | h4
        · exact hp h3
        · exact z ⟨m, by omega, by omega, h3⟩
      · rintro z ⟨m, h1, h2, h3⟩
        exact z ⟨m, by omega, by omega, h3⟩
theorem sfr_0 {p : Nat → Prop} {k : Nat} (hk : k < 2 ^ 31) : sfr p k 0 = -1 ↔ ¬ ∃ m, m < k ∧ p m := by
  rw [sfr_no k 0 (by omega)]
  exact ⟨fun z ⟨m, h1, h2⟩ => z ⟨m, by omega, by omega, h2⟩, fun z ⟨m, _, h1, h2⟩ => z ⟨m, by omega, h2⟩⟩
section Model5
variable {l : Launch} {D : va_G} {t : ty4} {b L : Nat} {xs : Nat → Int32} {q : Nat → Nat} {i : Nat → Int32} {a : Nat → Nat → Int32} {w : Int64} {d mc ms : Nat}
set_option maxHeartbeats 2000000 in
theorem m_cell_1 {n : Nat} (hn : i 12 = nI n) (hn12 : n ≤ 12) {c ht cd : Int32} (h1 : ¬ (0 ≤ c ∧ c < nI n)) : MC (En l D t b L xs) MX6_cell 20 [.ref (q 18), .int c, .int ht, .int cd] (hw t q i a w) mc ms (rt none (hw t q (upd i 18 1) a w) mc ms) := by
  show MW _ _ _ 0 [some (.ref (q 18)), some (.int c), some (.int ht), some (.int cd)] [] _ _ _ _
  refine MW.aload_n dX6_cell_0 rfl ?_
  refine MW.iload_n dX6_cell_1 rfl ?_
  refine MW.iconst (v := 0) dX6_cell_2 (by decide) ?_
  refine MW.aload_n dX6_cell_3 rfl ?_
  refine MW.getf fX6_cell_4 18 rfl rfl ?_
  refine MW.iconst (v := 1) dX6_cell_7 (by decide) ?_
  refine MW.isub dX6_cell_8 ?_
  refine MW.top (v' := .int (nI n - 1)) (by rw [hn]) ?_
  refine MW.callS1 fX6_cell_9 (c_within) rfl rfl rfl rfl (Nat.le_of_ble_eq_true rfl) ?_
  refine MW.if_ne 19 dX6_cell_12 (by decide) (fun hc12 => absurd (bI_0.mpr (fun z => h1 ⟨z.1, (le_pred (by omega)).mp z.2⟩)) hc12) (fun hc12 => ?_)
  refine MW.iconst (v := 1) dX6_cell_15 (by decide) ?_
  refine MW.goto 47 dX6_cell_16 (by decide) ?_
  refine MW.putf fX6_cell_47 18 rfl (rfl) (rfl) rfl ?_
  refine MW.heap hw_s6_8 ?_
  refine MW.aload_n dX6_cell_50 rfl ?_
  refine MW.getf fX6_cell_51 18 rfl rfl ?_
  refine MW.if_eq 58 dX6_cell_54 (by decide) (fun hc54 => absurd hc54 (show ¬ (1 : Int32) = 0 by decide)) (fun hc54 => ?_)
  exact MW.vreturn dX6_cell_57 rfl rt_r
set_option maxHeartbeats 2000000 in
theorem m_cell_2 {n : Nat} (hn : i 12 = nI n) (hn12 : n ≤ 12) {c ht cd : Int32} (h1 : 0 ≤ c ∧ c < nI n) (h2 : ¬ (1 ≤ ht ∧ ht ≤ 10)) : MC (En l D t b L xs) MX6_cell 20 [.ref (q 18), .int c, .int ht, .int cd] (hw t q i a w) mc ms (rt none (hw t q (upd i 18 2) a w) mc ms) := by
  show MW _ _ _ 0 [some (.ref (q 18)), some (.int c), some (.int ht), some (.int cd)] [] _ _ _ _
  refine MW.aload_n dX6_cell_0 rfl ?_
  refine MW.iload_n dX6_cell_1 rfl ?_
  refine MW.iconst (v := 0) dX6_cell_2 (by decide) ?_
  refine MW.aload_n dX6_cell_3 rfl ?_
  refine MW.getf fX6_cell_4 18 rfl rfl ?_
  refine MW.iconst (v := 1) dX6_cell_7 (by decide) ?_
  refine MW.isub dX6_cell_8 ?_
  refine MW.top (v' := .int (nI n - 1)) (by rw [hn]) ?_
  refine MW.callS1 fX6_cell_9 (c_within) rfl rfl rfl rfl (Nat.le_of_ble_eq_true rfl) ?_
  refine MW.if_ne 19 dX6_cell_12 (by decide) (fun hc12 => ?_) (fun hc12 => absurd hc12 (fun z => zz z ⟨h1.1, (le_pred (by omega)).mpr h1.2⟩))
  refine MW.iload_n dX6_cell_19 rfl ?_
  refine MW.iconst (v := 1) dX6_cell_20 (by decide) ?_
  refine MW.bipush (v := 10) dX6_cell_21 (by decide) ?_
  refine MW.callS1 fX6_cell_23 (c_within) rfl rfl rfl rfl (Nat.le_of_ble_eq_true rfl) ?_
  refine MW.if_ne 33 dX6_cell_26 (by decide) (fun hc26 => absurd (bI_0.mpr h2) hc26) (fun hc26 => ?_)
  refine MW.iconst (v := 2) dX6_cell_29 (by decide) ?_
  refine MW.goto 47 dX6_cell_30 (by decide) ?_
  refine MW.putf fX6_cell_47 18 rfl (rfl) (rfl) rfl ?_
  refine MW.heap hw_s6_8 ?_
  refine MW.aload_n dX6_cell_50 rfl ?_
  refine MW.getf fX6_cell_51 18 rfl rfl ?_
  refine MW.if_eq 58 dX6_cell_54 (by decide) (fun hc54 => absurd hc54 (show ¬ (2 : Int32) = 0 by decide)) (fun hc54 => ?_)
  exact MW.vreturn dX6_cell_57 rfl rt_r
set_option maxHeartbeats 2000000 in
theorem m_cell_3 {k : Nat} (hk : i 17 = nI k) (hk8 : k ≤ 8) {n : Nat} (hn : i 12 = nI n) (hn12 : n ≤ 12) {c ht cd : Int32} (h1 : 0 ≤ c ∧ c < nI n) (h2 : 1 ≤ ht ∧ ht ≤ 10) (h3 : ∃ m, m < k ∧ a 17 m = c) : MC (En l D t b L xs) MX6_cell 20 [.ref (q 18), .int c, .int ht, .int cd] (hw t q i a w) mc ms (rt none (hw t q (upd i 18 3) a w) mc ms) := by
  show MW _ _ _ 0 [some (.ref (q 18)), some (.int c), some (.int ht), some (.int cd)] [] _ _ _ _
  refine MW.aload_n dX6_cell_0 rfl ?_
  refine MW.iload_n dX6_cell_1 rfl ?_
  refine MW.iconst (v := 0) dX6_cell_2 (by decide) ?_
  refine MW.aload_n dX6_cell_3 rfl ?_
  refine MW.getf fX6_cell_4 18 rfl rfl ?_
  refine MW.iconst (v := 1) dX6_cell_7 (by decide) ?_
  refine MW.isub dX6_cell_8 ?_
  refine MW.top (v' := .int (nI n - 1)) (by rw [hn]) ?_
  refine MW.callS1 fX6_cell_9 (c_within) rfl rfl rfl rfl (Nat.le_of_ble_eq_true rfl) ?_
  refine MW.if_ne 19 dX6_cell_12 (by decide) (fun hc12 => ?_) (fun hc12 => absurd hc12 (fun z => zz z ⟨h1.1, (le_pred (by omega)).mpr h1.2⟩))
  refine MW.iload_n dX6_cell_19 rfl ?_
  refine MW.iconst (v := 1) dX6_cell_20 (by decide) ?_
  refine MW.bipush (v := 10) dX6_cell_21 (by decide) ?_
  refine MW.callS1 fX6_cell_23 (c_within) rfl rfl rfl rfl (Nat.le_of_ble_eq_true rfl) ?_
  refine MW.if_ne 33 dX6_cell_26 (by decide) (fun hc26 => ?_) (fun hc26 => absurd hc26 (fun z => zz z h2))
  refine MW.aload_n dX6_cell_33 rfl ?_
  refine MW.iload_n dX6_cell_34 rfl ?_
  refine MW.callV1 fX6_cell_35 18 rfl (m_standsAt hk hk8) rfl rfl rfl rfl (Nat.le_of_ble_eq_true rfl) ?_
  refine MW.iconst (v := -1) dX6_cell_38 (by decide) ?_
  refine MW.icmp_eq 46 dX6_cell_39 (by decide) (fun hc39 => absurd hc39 (fun z => ((sfr_0 (by omega)).mp z) h3)) (fun hc39 => ?_)
  refine MW.iconst (v := 3) dX6_cell_42 (by decide) ?_
  refine MW.goto 47 dX6_cell_43 (by decide) ?_
  refine MW.putf fX6_cell_47 18 rfl (rfl) (rfl) rfl ?_
  refine MW.heap hw_s6_8 ?_
  refine MW.aload_n dX6_cell_50 rfl ?_
  refine MW.getf fX6_cell_51 18 rfl rfl ?_
  refine MW.if_eq 58 dX6_cell_54 (by decide) (fun hc54 => absurd hc54 (show ¬ (3 : Int32) = 0 by decide)) (fun hc54 => ?_)
  exact MW.vreturn dX6_cell_57 rfl rt_r
set_option maxHeartbeats 2000000 in
theorem m_cell_ok {k : Nat} (hk : i 17 = nI k) (hk8 : k ≤ 8) {n : Nat} (hn : i 12 = nI n) (hn12 : n ≤ 12) {m : Nat} {ht cd : Int32} (hm : m < n) (h2 : 1 ≤ ht ∧ ht ≤ 10) (h3 : ¬ ∃ p, p < k ∧ a 17 p = nI m) (hcd : cd = 0 ∨ cd = 1) : MC (En l D t b L xs) MX6_cell 20 [.ref (q 18), .int (nI m), .int ht, .int cd] (hw t q i a w) mc ms (rt none (hw t q (upd i 18 0) (au (au a 10 (upd (a 10) m ht)) 11 (upd (a 11) m cd)) w) mc ms) := by
  show MW _ _ _ 0 [some (.ref (q 18)), some (.int (nI m)), some (.int ht), some (.int cd)] [] _ _ _ _
  refine MW.aload_n dX6_cell_0 rfl ?_
  refine MW.iload_n dX6_cell_1 rfl ?_
  refine MW.iconst (v := 0) dX6_cell_2 (by decide) ?_
  refine MW.aload_n dX6_cell_3 rfl ?_
  refine MW.getf fX6_cell_4 18 rfl rfl ?_
  refine MW.iconst (v := 1) dX6_cell_7 (by decide) ?_
  refine MW.isub dX6_cell_8 ?_
  refine MW.top (v' := .int (nI n - 1)) (by rw [hn]) ?_
  refine MW.callS1 fX6_cell_9 (c_within) rfl rfl rfl rfl (Nat.le_of_ble_eq_true rfl) ?_
  refine MW.if_ne 19 dX6_cell_12 (by decide) (fun hc12 => ?_) (fun hc12 => absurd hc12 (fun z => zz z ⟨nI_pos' (by omega), (le_pred (by omega)).mpr (nI_lt hm (by omega))⟩))
  refine MW.iload_n dX6_cell_19 rfl ?_
  refine MW.iconst (v := 1) dX6_cell_20 (by decide) ?_
  refine MW.bipush (v := 10) dX6_cell_21 (by decide) ?_
  refine MW.callS1 fX6_cell_23 (c_within) rfl rfl rfl rfl (Nat.le_of_ble_eq_true rfl) ?_
  refine MW.if_ne 33 dX6_cell_26 (by decide) (fun hc26 => ?_) (fun hc26 => absurd hc26 (fun z => zz z h2))
  refine MW.aload_n dX6_cell_33 rfl ?_
  refine MW.iload_n dX6_cell_34 rfl ?_
  refine MW.callV1 fX6_cell_35 18 rfl (m_standsAt hk hk8) rfl rfl rfl rfl (Nat.le_of_ble_eq_true rfl) ?_
  refine MW.iconst (v := -1) dX6_cell_38 (by decide) ?_
  refine MW.icmp_eq 46 dX6_cell_39 (by decide) (fun hc39 => ?_) (fun hc39 => absurd ((sfr_0 (by omega)).mpr h3) hc39)
  refine MW.iconst (v := 0) dX6_cell_46 (by decide) ?_
  refine MW.putf fX6_cell_47 18 rfl (rfl) (rfl) rfl ?_
  refine MW.heap hw_s6_8 ?_
  refine MW.aload_n dX6_cell_50 rfl ?_
  refine MW.getf fX6_cell_51 18 rfl rfl ?_
  refine MW.if_eq 58 dX6_cell_54 (by decide) (fun hc54 => ?_) (fun hc54 => absurd (show (0 : Int32) = 0 from rfl) hc54)
  refine MW.aload_n dX6_cell_58 rfl ?_
  refine MW.getf fX6_cell_59 18 rfl rfl ?_
  refine MW.iload_n dX6_cell_62 rfl ?_
  refine MW.iload_n dX6_cell_63 rfl ?_
  refine MW.isj dX6_cell_64 19 0 rfl rfl (show m < 12 by omega) (by decide) ?_
  refine MW.heap hw_a19 ?_
  refine MW.aload_n dX6_cell_65 rfl ?_
  refine MW.getf fX6_cell_66 18 rfl rfl ?_
  refine MW.iload_n dX6_cell_69 rfl ?_
  refine MW.iload_n dX6_cell_70 rfl ?_
  refine MW.zsj dX6_cell_71 20 1 rfl rfl (show m < 12 by omega) (by decide) (hcd) ?_
  refine MW.heap hw_a20 ?_
  exact MW.vreturn dX6_cell_72 rfl rt_r
set_option maxHeartbeats 2000000 in
theorem m_axles_1 {x y z v : Int32} (h1 : ¬ ((0 ≤ x ∧ x ≤ 100) ∧ (0 ≤ y ∧ y ≤ 100) ∧ (0 ≤ z ∧ z ≤ 10000) ∧ (0 ≤ v ∧ v ≤ 10000) ∧ x < y)) : MC (En l D t b L xs) MX6_axles 20 [.ref (q 18), .int x, .int y, .int z, .int v] (hw t q i a w) mc ms (rt none (hw t q (upd i 18 1) a w) mc ms) := by
  show MW _ _ _ 0 [some (.ref (q 18)), some (.int x), some (.int y), some (.int z), some (.int v)] [] _ _ _ _
  refine MW.aload_n dX6_axles_0 rfl ?_
  refine MW.iload_n dX6_axles_1 rfl ?_
  refine MW.iconst (v := 0) dX6_axles_2 (by decide) ?_
  refine MW.bipush (v := 100) dX6_axles_3 (by decide) ?_
  refine MW.callS1 fX6_axles_5 (c_within) rfl rfl rfl rfl (Nat.le_of_ble_eq_true rfl) ?_
  refine MW.if_eq 53 dX6_axles_8 (by decide) (fun hc8 => ?_) (fun hc8 => ?_)
  · skip
    refine MW.iconst (v := 1) dX6_axles_53 (by decide) ?_
    refine MW.putf fX6_axles_54 18 rfl (rfl) (rfl) rfl ?_
    refine MW.heap hw_s6_8 ?_
    refine MW.aload_n dX6_axles_57 rfl ?_
    refine MW.getf fX6_axles_58 18 rfl rfl ?_
    refine MW.if_eq 65 dX6_axles_61 (by decide) (fun hc61 => absurd hc61 (show ¬ (1 : Int32) = 0 by decide)) (fun hc61 => ?_)
    exact MW.vreturn dX6_axles_64 rfl rt_r
  · skip
    refine MW.iload_n dX6_axles_11 rfl ?_
    refine MW.iconst (v := 0) dX6_axles_12 (by decide) ?_
    refine MW.bipush (v := 100) dX6_axles_13 (by decide) ?_
    refine MW.callS1 fX6_axles_15 (c_within) rfl rfl rfl rfl (Nat.le_of_ble_eq_true rfl) ?_
    refine MW.if_eq 53 dX6_axles_18 (by decide) (fun hc18 => ?_) (fun hc18 => ?_)
    · skip
      refine MW.iconst (v := 1) dX6_axles_53 (by decide) ?_
      refine MW.putf fX6_axles_54 18 rfl (rfl) (rfl) rfl ?_
      refine MW.heap hw_s6_8 ?_
      refine MW.aload_n dX6_axles_57 rfl ?_
      refine MW.getf fX6_axles_58 18 rfl rfl ?_
      refine MW.if_eq 65 dX6_axles_61 (by decide) (fun hc61 => absurd hc61 (show ¬ (1 : Int32) = 0 by decide)) (fun hc61 => ?_)
      exact MW.vreturn dX6_axles_64 rfl rt_r
    · skip
      refine MW.iload_n dX6_axles_21 rfl ?_
      refine MW.iload_n dX6_axles_22 rfl ?_
      refine MW.icmp_le 53 dX6_axles_23 (by decide) (fun hc23 => ?_) (fun hc23 => ?_)
      · skip
        refine MW.iconst (v := 1) dX6_axles_53 (by decide) ?_
        refine MW.putf fX6_axles_54 18 rfl (rfl) (rfl) rfl ?_
        refine MW.heap hw_s6_8 ?_
        refine MW.aload_n dX6_axles_57 rfl ?_
        refine MW.getf fX6_axles_58 18 rfl rfl ?_
        refine MW.if_eq 65 dX6_axles_61 (by decide) (fun hc61 => absurd hc61 (show ¬ (1 : Int32) = 0 by decide)) (fun hc61 => ?_)
        exact MW.vreturn dX6_axles_64 rfl rt_r
      · skip
        refine MW.iload_n dX6_axles_26 rfl ?_
        refine MW.iconst (v := 0) dX6_axles_27 (by decide) ?_
        refine MW.sipush (v := 10000) dX6_axles_28 (by decide) ?_
        refine MW.callS1 fX6_axles_31 (c_within) rfl rfl rfl rfl (Nat.le_of_ble_eq_true rfl) ?_
        refine MW.if_eq 53 dX6_axles_34 (by decide) (fun hc34 => ?_) (fun hc34 => ?_)
        · skip
          refine MW.iconst (v := 1) dX6_axles_53 (by decide) ?_
          refine MW.putf fX6_axles_54 18 rfl (rfl) (rfl) rfl ?_
          refine MW.heap hw_s6_8 ?_
          refine MW.aload_n dX6_axles_57 rfl ?_
          refine MW.getf fX6_axles_58 18 rfl rfl ?_
          refine MW.if_eq 65 dX6_axles_61 (by decide) (fun hc61 => absurd hc61 (show ¬ (1 : Int32) = 0 by decide)) (fun hc61 => ?_)
          exact MW.vreturn dX6_axles_64 rfl rt_r
        · skip
          refine MW.iload dX6_axles_37 rfl ?_
          refine MW.iconst (v := 0) dX6_axles_39 (by decide) ?_
          refine MW.sipush (v := 10000) dX6_axles_40 (by decide) ?_
          refine MW.callS1 fX6_axles_43 (c_within) rfl rfl rfl rfl (Nat.le_of_ble_eq_true rfl) ?_
          refine MW.if_eq 53 dX6_axles_46 (by decide) (fun hc46 => ?_) (fun hc46 => ?_)
          · skip
            refine MW.iconst (v := 1) dX6_axles_53 (by decide) ?_
            refine MW.putf fX6_axles_54 18 rfl (rfl) (rfl) rfl ?_
            refine MW.heap hw_s6_8 ?_
            refine MW.aload_n dX6_axles_57 rfl ?_
            refine MW.getf fX6_axles_58 18 rfl rfl ?_
            refine MW.if_eq 65 dX6_axles_61 (by decide) (fun hc61 => absurd hc61 (show ¬ (1 : Int32) = 0 by decide)) (fun hc61 => ?_)
            exact MW.vreturn dX6_axles_64 rfl rt_r
          · skip
            exact absurd ⟨nz hc8, nz hc18, nz hc34, nz hc46, Int32.not_le.mp hc23⟩ h1
set_option maxHeartbeats 2000000 in
theorem m_axles_ok {x y z v : Int32} (h1 : (0 ≤ x ∧ x ≤ 100) ∧ (0 ≤ y ∧ y ≤ 100) ∧ (0 ≤ z ∧ z ≤ 10000) ∧ (0 ≤ v ∧ v ≤ 10000) ∧ x < y) : MC (En l D t b L xs) MX6_axles 20 [.ref (q 18), .int x, .int y, .int z, .int v] (hw t q i a w) mc ms (rt none (hw t q (upd (upd (upd (upd (upd i 18 0) 13 x) 14 y) 15 z) 16 v) a w) mc ms) := by
  show MW _ _ _ 0 [some (.ref (q 18)), some (.int x), some (.int y), some (.int z), some (.int v)] [] _ _ _ _
  refine MW.aload_n dX6_axles_0 rfl ?_
  refine MW.iload_n dX6_axles_1 rfl ?_
  refine MW.iconst (v := 0) dX6_axles_2 (by decide) ?_
  refine MW.bipush (v := 100) dX6_axles_3 (by decide) ?_
  refine MW.callS1 fX6_axles_5 (c_within) rfl rfl rfl rfl (Nat.le_of_ble_eq_true rfl) ?_
  refine MW.if_eq 53 dX6_axles_8 (by decide) (fun hc8 => absurd hc8 (fun z => zz z h1.1)) (fun hc8 => ?_)
  refine MW.iload_n dX6_axles_11 rfl ?_
  refine MW.iconst (v := 0) dX6_axles_12 (by decide) ?_
  refine MW.bipush (v := 100) dX6_axles_13 (by decide) ?_
  refine MW.callS1 fX6_axles_15 (c_within) rfl rfl rfl rfl (Nat.le_of_ble_eq_true rfl) ?_
  refine MW.if_eq 53 dX6_axles_18 (by decide) (fun hc18 => absurd hc18 (fun z => zz z h1.2.1)) (fun hc18 => ?_)
  refine MW.iload_n dX6_axles_21 rfl ?_
  refine MW.iload_n dX6_axles_22 rfl ?_
  refine MW.icmp_le 53 dX6_axles_23 (by decide) (fun hc23 => absurd hc23 (Int32.not_le.mpr h1.2.2.2.2)) (fun hc23 => ?_)
  refine MW.iload_n dX6_axles_26 rfl ?_
  refine MW.iconst (v := 0) dX6_axles_27 (by decide) ?_
  refine MW.sipush (v := 10000) dX6_axles_28 (by decide) ?_
  refine MW.callS1 fX6_axles_31 (c_within) rfl rfl rfl rfl (Nat.le_of_ble_eq_true rfl) ?_
  refine MW.if_eq 53 dX6_axles_34 (by decide) (fun hc34 => absurd hc34 (fun z => zz z h1.2.2.1)) (fun hc34 => ?_)
  refine MW.iload dX6_axles_37 rfl ?_
  refine MW.iconst (v := 0) dX6_axles_39 (by decide) ?_
  refine MW.sipush (v := 10000) dX6_axles_40 (by decide) ?_
  refine MW.callS1 fX6_axles_43 (c_within) rfl rfl rfl rfl (Nat.le_of_ble_eq_true rfl) ?_
  refine MW.if_eq 53 dX6_axles_46 (by decide) (fun hc46 => absurd hc46 (fun z => zz z h1.2.2.2.1)) (fun hc46 => ?_)
  refine MW.iconst (v := 0) dX6_axles_49 (by decide) ?_
  refine MW.goto 54 dX6_axles_50 (by decide) ?_
  refine MW.putf fX6_axles_54 18 rfl (rfl) (rfl) rfl ?_
  refine MW.heap hw_s6_8 ?_
  refine MW.aload_n dX6_axles_57 rfl ?_
  refine MW.getf fX6_axles_58 18 rfl rfl ?_
  refine MW.if_eq 65 dX6_axles_61 (by decide) (fun hc61 => ?_) (fun hc61 => absurd (show (0 : Int32) = 0 from rfl) hc61)
  refine MW.aload_n dX6_axles_65 rfl ?_
  refine MW.iload_n dX6_axles_66 rfl ?_
  refine MW.putf fX6_axles_67 18 rfl (rfl) (rfl) rfl ?_
  refine MW.heap hw_s6_3 ?_
  refine MW.aload_n dX6_axles_70 rfl ?_
  refine MW.iload_n dX6_axles_71 rfl ?_
  refine MW.putf fX6_axles_72 18 rfl (rfl) (rfl) rfl ?_
  refine MW.heap hw_s6_4 ?_
  refine MW.aload_n dX6_axles_75 rfl ?_
  refine MW.iload_n dX6_axles_76 rfl ?_
  refine MW.putf fX6_axles_77 18 rfl (rfl) (rfl) rfl ?_
  refine MW.heap hw_s6_5 ?_
  refine MW.aload_n dX6_axles_80 rfl ?_
  refine MW.iload dX6_axles_81 rfl ?_
  refine MW.putf fX6_axles_83 18 rfl (rfl) (rfl) rfl ?_
  refine MW.heap hw_s6_6 ?_
  exact MW.vreturn dX6_axles_86 rfl rt_r
set_option maxHeartbeats 2000000 in
theorem m_pallet_1 {x y z s v : Int32} (h1 : ¬ ((1 ≤ x ∧ x ≤ 1000) ∧ (1 ≤ s ∧ s ≤ 9) ∧ (1 ≤ v ∧ v ≤ 10))) : MC (En l D t b L xs) MX6_pallet 20 [.ref (q 18), .int x, .int y, .int z, .int s, .int v] (hw t q i a w) mc ms (rt (some (.int 0)) (hw t q (upd i 18 1) a w) mc ms) := by
  show MW _ _ _ 0 [some (.ref (q 18)), some (.int x), some (.int y), some (.int z), some (.int s), some (.int v), none] [] _ _ _ _
  refine MW.iload_n dX6_pallet_0 rfl ?_
  refine MW.iconst (v := 1) dX6_pallet_1 (by decide) ?_
  refine MW.sipush (v := 1000) dX6_pallet_2 (by decide) ?_
  refine MW.callS1 fX6_pallet_5 (c_within) rfl rfl rfl rfl (Nat.le_of_ble_eq_true rfl) ?_
  refine MW.if_eq 37 dX6_pallet_8 (by decide) (fun hc8 => ?_) (fun hc8 => ?_)
  · skip
    refine MW.iconst (v := 0) dX6_pallet_37 (by decide) ?_
    refine MW.istore dX6_pallet_38 rfl rfl ?_
    refine MW.aload_n dX6_pallet_40 rfl ?_
    refine MW.iload dX6_pallet_41 rfl ?_
    refine MW.if_ne 50 dX6_pallet_43 (by decide) (fun hc43 => absurd (show (0 : Int32) = 0 from rfl) hc43) (fun hc43 => ?_)
    refine MW.iconst (v := 1) dX6_pallet_46 (by decide) ?_
    refine MW.goto 75 dX6_pallet_47 (by decide) ?_
    refine MW.putf fX6_pallet_75 18 rfl (rfl) (rfl) rfl ?_
    refine MW.heap hw_s6_8 ?_
    refine MW.aload_n dX6_pallet_78 rfl ?_
    refine MW.getf fX6_pallet_79 18 rfl rfl ?_
    refine MW.if_eq 87 dX6_pallet_82 (by decide) (fun hc82 => absurd hc82 (show ¬ (1 : Int32) = 0 by decide)) (fun hc82 => ?_)
    refine MW.iconst (v := 0) dX6_pallet_85 (by decide) ?_
    exact MW.ireturn dX6_pallet_86 rfl (rfl) rt_r
  · skip
    refine MW.iload dX6_pallet_11 rfl ?_
    refine MW.iconst (v := 1) dX6_pallet_13 (by decide) ?_
    refine MW.bipush (v := 9) dX6_pallet_14 (by decide) ?_
    refine MW.callS1 fX6_pallet_16 (c_within) rfl rfl rfl rfl (Nat.le_of_ble_eq_true rfl) ?_
    refine MW.if_eq 37 dX6_pallet_19 (by decide) (fun hc19 => ?_) (fun hc19 => ?_)
    · skip
      refine MW.iconst (v := 0) dX6_pallet_37 (by decide) ?_
      refine MW.istore dX6_pallet_38 rfl rfl ?_
      refine MW.aload_n dX6_pallet_40 rfl ?_
      refine MW.iload dX6_pallet_41 rfl ?_
      refine MW.if_ne 50 dX6_pallet_43 (by decide) (fun hc43 => absurd (show (0 : Int32) = 0 from rfl) hc43) (fun hc43 => ?_)
      refine MW.iconst (v := 1) dX6_pallet_46 (by decide) ?_
      refine MW.goto 75 dX6_pallet_47 (by decide) ?_
      refine MW.putf fX6_pallet_75 18 rfl (rfl) (rfl) rfl ?_
      refine MW.heap hw_s6_8 ?_
      refine MW.aload_n dX6_pallet_78 rfl ?_
      refine MW.getf fX6_pallet_79 18 rfl rfl ?_
      refine MW.if_eq 87 dX6_pallet_82 (by decide) (fun hc82 => absurd hc82 (show ¬ (1 : Int32) = 0 by decide)) (fun hc82 => ?_)
      refine MW.iconst (v := 0) dX6_pallet_85 (by decide) ?_
      exact MW.ireturn dX6_pallet_86 rfl (rfl) rt_r
    · skip
      refine MW.iload dX6_pallet_22 rfl ?_
      refine MW.iconst (v := 1) dX6_pallet_24 (by decide) ?_
      refine MW.bipush (v := 10) dX6_pallet_25 (by decide) ?_
      refine MW.callS1 fX6_pallet_27 (c_within) rfl rfl rfl rfl (Nat.le_of_ble_eq_true rfl) ?_
      refine MW.if_eq 37 dX6_pallet_30 (by decide) (fun hc30 => ?_) (fun hc30 => ?_)
      · skip
        refine MW.iconst (v := 0) dX6_pallet_37 (by decide) ?_
        refine MW.istore dX6_pallet_38 rfl rfl ?_
        refine MW.aload_n dX6_pallet_40 rfl ?_
        refine MW.iload dX6_pallet_41 rfl ?_
        refine MW.if_ne 50 dX6_pallet_43 (by decide) (fun hc43 => absurd (show (0 : Int32) = 0 from rfl) hc43) (fun hc43 => ?_)
        refine MW.iconst (v := 1) dX6_pallet_46 (by decide) ?_
        refine MW.goto 75 dX6_pallet_47 (by decide) ?_
        refine MW.putf fX6_pallet_75 18 rfl (rfl) (rfl) rfl ?_
        refine MW.heap hw_s6_8 ?_
        refine MW.aload_n dX6_pallet_78 rfl ?_
        refine MW.getf fX6_pallet_79 18 rfl rfl ?_
        refine MW.if_eq 87 dX6_pallet_82 (by decide) (fun hc82 => absurd hc82 (show ¬ (1 : Int32) = 0 by decide)) (fun hc82 => ?_)
        refine MW.iconst (v := 0) dX6_pallet_85 (by decide) ?_
        exact MW.ireturn dX6_pallet_86 rfl (rfl) rt_r
      · skip
        exact absurd ⟨nz hc8, nz hc19, nz hc30⟩ h1
set_option maxHeartbeats 2000000 in
theorem m_pallet_2 {x y z s v : Int32} (h1 : (1 ≤ x ∧ x ≤ 1000) ∧ (1 ≤ s ∧ s ≤ 9) ∧ (1 ≤ v ∧ v ≤ 10)) (h2 : ¬ i 20 = 0) : MC (En l D t b L xs) MX6_pallet 20 [.ref (q 18), .int x, .int y, .int z, .int s, .int v] (hw t q i a w) mc ms (rt (some (.int 0)) (hw t q (upd i 18 2) a w) mc ms) := by
  show MW _ _ _ 0 [some (.ref (q 18)), some (.int x), some (.int y), some (.int z), some (.int s), some (.int v), none] [] _ _ _ _
  refine MW.iload_n dX6_pallet_0 rfl ?_
  refine MW.iconst (v := 1) dX6_pallet_1 (by decide) ?_
  refine MW.sipush (v := 1000) dX6_pallet_2 (by decide) ?_
  refine MW.callS1 fX6_pallet_5 (c_within) rfl rfl rfl rfl (Nat.le_of_ble_eq_true rfl) ?_
  refine MW.if_eq 37 dX6_pallet_8 (by decide) (fun hc8 => absurd hc8 (fun z => zz z h1.1)) (fun hc8 => ?_)
  refine MW.iload dX6_pallet_11 rfl ?_
  refine MW.iconst (v := 1) dX6_pallet_13 (by decide) ?_
  refine MW.bipush (v := 9) dX6_pallet_14 (by decide) ?_
  refine MW.callS1 fX6_pallet_16 (c_within) rfl rfl rfl rfl (Nat.le_of_ble_eq_true rfl) ?_
  refine MW.if_eq 37 dX6_pallet_19 (by decide) (fun hc19 => absurd hc19 (fun z => zz z h1.2.1)) (fun hc19 => ?_)
  refine MW.iload dX6_pallet_22 rfl ?_
  refine MW.iconst (v := 1) dX6_pallet_24 (by decide) ?_
  refine MW.bipush (v := 10) dX6_pallet_25 (by decide) ?_
  refine MW.callS1 fX6_pallet_27 (c_within) rfl rfl rfl rfl (Nat.le_of_ble_eq_true rfl) ?_
  refine MW.if_eq 37 dX6_pallet_30 (by decide) (fun hc30 => absurd hc30 (fun z => zz z h1.2.2)) (fun hc30 => ?_)
  refine MW.iconst (v := 1) dX6_pallet_33 (by decide) ?_
  refine MW.goto 38 dX6_pallet_34 (by decide) ?_
  refine MW.istore dX6_pallet_38 rfl rfl ?_
  refine MW.aload_n dX6_pallet_40 rfl ?_
  refine MW.iload dX6_pallet_41 rfl ?_
  refine MW.if_ne 50 dX6_pallet_43 (by decide) (fun hc43 => ?_) (fun hc43 => absurd hc43 (show ¬ (1 : Int32) = 0 by decide))
  refine MW.aload_n dX6_pallet_50 rfl ?_
  refine MW.getf fX6_pallet_51 18 rfl rfl ?_
  refine MW.if_eq 61 dX6_pallet_54 (by decide) (fun hc54 => absurd hc54 h2) (fun hc54 => ?_)
  refine MW.iconst (v := 2) dX6_pallet_57 (by decide) ?_
  refine MW.goto 75 dX6_pallet_58 (by decide) ?_
  refine MW.putf fX6_pallet_75 18 rfl (rfl) (rfl) rfl ?_
  refine MW.heap hw_s6_8 ?_
  refine MW.aload_n dX6_pallet_78 rfl ?_
  refine MW.getf fX6_pallet_79 18 rfl rfl ?_
  refine MW.if_eq 87 dX6_pallet_82 (by decide) (fun hc82 => absurd hc82 (show ¬ (2 : Int32) = 0 by decide)) (fun hc82 => ?_)
  refine MW.iconst (v := 0) dX6_pallet_85 (by decide) ?_
  exact MW.ireturn dX6_pallet_86 rfl (rfl) rt_r
set_option maxHeartbeats 2000000 in
theorem m_pallet_3 {x y z s v : Int32} (h1 : (1 ≤ x ∧ x ≤ 1000) ∧ (1 ≤ s ∧ s ≤ 9) ∧ (1 ≤ v ∧ v ≤ 10)) (h2 : i 20 = 0) (h3 : i 17 = 8) : MC (En l D t b L xs) MX6_pallet 20 [.ref (q 18), .int x, .int y, .int z, .int s, .int v] (hw t q i a w) mc ms (rt (some (.int 0)) (hw t q (upd i 18 3) a w) mc ms) := by
  show MW _ _ _ 0 [some (.ref (q 18)), some (.int x), some (.int y), some (.int z), some (.int s), some (.int v), none] [] _ _ _ _
  refine MW.iload_n dX6_pallet_0 rfl ?_
  refine MW.iconst (v := 1) dX6_pallet_1 (by decide) ?_
  refine MW.sipush (v := 1000) dX6_pallet_2 (by decide) ?_
  refine MW.callS1 fX6_pallet_5 (c_within) rfl rfl rfl rfl (Nat.le_of_ble_eq_true rfl) ?_
  refine MW.if_eq 37 dX6_pallet_8 (by decide) (fun hc8 => absurd hc8 (fun z => zz z h1.1)) (fun hc8 => ?_)
  refine MW.iload dX6_pallet_11 rfl ?_
  refine MW.iconst (v := 1) dX6_pallet_13 (by decide) ?_
  refine MW.bipush (v := 9) dX6_pallet_14 (by decide) ?_
  refine MW.callS1 fX6_pallet_16 (c_within) rfl rfl rfl rfl (Nat.le_of_ble_eq_true rfl) ?_
  refine MW.if_eq 37 dX6_pallet_19 (by decide) (fun hc19 => absurd hc19 (fun z => zz z h1.2.1)) (fun hc19 => ?_)
  refine MW.iload dX6_pallet_22 rfl ?_
  refine MW.iconst (v := 1) dX6_pallet_24 (by decide) ?_
  refine MW.bipush (v := 10) dX6_pallet_25 (by decide) ?_
  refine MW.callS1 fX6_pallet_27 (c_within) rfl rfl rfl rfl (Nat.le_of_ble_eq_true rfl) ?_
  refine MW.if_eq 37 dX6_pallet_30 (by decide) (fun hc30 => absurd hc30 (fun z => zz z h1.2.2)) (fun hc30 => ?_)
  refine MW.iconst (v := 1) dX6_pallet_33 (by decide) ?_
  refine MW.goto 38 dX6_pallet_34 (by decide) ?_
  refine MW.istore dX6_pallet_38 rfl rfl ?_
  refine MW.aload_n dX6_pallet_40 rfl ?_
  refine MW.iload dX6_pallet_41 rfl ?_
  refine MW.if_ne 50 dX6_pallet_43 (by decide) (fun hc43 => ?_) (fun hc43 => absurd hc43 (show ¬ (1 : Int32) = 0 by decide))
  refine MW.aload_n dX6_pallet_50 rfl ?_
  refine MW.getf fX6_pallet_51 18 rfl rfl ?_
  refine MW.if_eq 61 dX6_pallet_54 (by decide) (fun hc54 => ?_) (fun hc54 => absurd h2 hc54)
  refine MW.aload_n dX6_pallet_61 rfl ?_
  refine MW.getf fX6_pallet_62 18 rfl rfl ?_
  refine MW.bipush (v := 8) dX6_pallet_65 (by decide) ?_
  refine MW.icmp_ne 74 dX6_pallet_67 (by decide) (fun hc67 => absurd h3 hc67) (fun hc67 => ?_)
  refine MW.iconst (v := 3) dX6_pallet_70 (by decide) ?_
  refine MW.goto 75 dX6_pallet_71 (by decide) ?_
  refine MW.putf fX6_pallet_75 18 rfl (rfl) (rfl) rfl ?_
  refine MW.heap hw_s6_8 ?_
  refine MW.aload_n dX6_pallet_78 rfl ?_
  refine MW.getf fX6_pallet_79 18 rfl rfl ?_
  refine MW.if_eq 87 dX6_pallet_82 (by decide) (fun hc82 => absurd hc82 (show ¬ (3 : Int32) = 0 by decide)) (fun hc82 => ?_)
  refine MW.iconst (v := 0) dX6_pallet_85 (by decide) ?_
  exact MW.ireturn dX6_pallet_86 rfl (rfl) rt_r
set_option maxHeartbeats 2000000 in
theorem m_pallet_ok {k : Nat} (hk : i 17 = nI k) (hk8 : k ≤ 8) (hk7 : k < 8) {x y z s v : Int32} (hy : y = 0 ∨ y = 1) (hz : z = 0 ∨ z = 1) (h1 : (1 ≤ x ∧ x ≤ 1000) ∧ (1 ≤ s ∧ s ≤ 9) ∧ (1 ≤ v ∧ v ≤ 10)) (h2 : i 20 = 0) : MC (En l D t b L xs) MX6_pallet 20 [.ref (q 18), .int x, .int y, .int z, .int s, .int v] (hw t q i a w) mc ms (rt (some (.int (nI k))) (hw t q (upd (upd i 18 0) 17 (nI (k + 1))) (au (au (au (au (au (au a 12 (upd (a 12) k x)) 13 (upd (a 13) k y)) 14 (upd (a 14) k z)) 15 (upd (a 15) k s)) 16 (upd (a 16) k v)) 17 (upd (a 17) k (-1))) w) mc ms) := by
  show MW _ _ _ 0 [some (.ref (q 18)), some (.int x), some (.int y), some (.int z), some (.int s), some (.int v), none] [] _ _ _ _
  refine MW.iload_n dX6_pallet_0 rfl ?_
  refine MW.iconst (v := 1) dX6_pallet_1 (by decide) ?_
  refine MW.sipush (v := 1000) dX6_pallet_2 (by decide) ?_
  refine MW.callS1 fX6_pallet_5 (c_within) rfl rfl rfl rfl (Nat.le_of_ble_eq_true rfl) ?_
  refine MW.if_eq 37 dX6_pallet_8 (by decide) (fun hc8 => absurd hc8 (fun z => zz z h1.1)) (fun hc8 => ?_)
  refine MW.iload dX6_pallet_11 rfl ?_
  refine MW.iconst (v := 1) dX6_pallet_13 (by decide) ?_
  refine MW.bipush (v := 9) dX6_pallet_14 (by decide) ?_
  refine MW.callS1 fX6_pallet_16 (c_within) rfl rfl rfl rfl (Nat.le_of_ble_eq_true rfl) ?_
  refine MW.if_eq 37 dX6_pallet_19 (by decide) (fun hc19 => absurd hc19 (fun z => zz z h1.2.1)) (fun hc19 => ?_)
  refine MW.iload dX6_pallet_22 rfl ?_
  refine MW.iconst (v := 1) dX6_pallet_24 (by decide) ?_
  refine MW.bipush (v := 10) dX6_pallet_25 (by decide) ?_
  refine MW.callS1 fX6_pallet_27 (c_within) rfl rfl rfl rfl (Nat.le_of_ble_eq_true rfl) ?_
  refine MW.if_eq 37 dX6_pallet_30 (by decide) (fun hc30 => absurd hc30 (fun z => zz z h1.2.2)) (fun hc30 => ?_)
  refine MW.iconst (v := 1) dX6_pallet_33 (by decide) ?_
  refine MW.goto 38 dX6_pallet_34 (by decide) ?_
  refine MW.istore dX6_pallet_38 rfl rfl ?_
  refine MW.aload_n dX6_pallet_40 rfl ?_
  refine MW.iload dX6_pallet_41 rfl ?_
  refine MW.if_ne 50 dX6_pallet_43 (by decide) (fun hc43 => ?_) (fun hc43 => absurd hc43 (show ¬ (1 : Int32) = 0 by decide))
  refine MW.aload_n dX6_pallet_50 rfl ?_
  refine MW.getf fX6_pallet_51 18 rfl rfl ?_
  refine MW.if_eq 61 dX6_pallet_54 (by decide) (fun hc54 => ?_) (fun hc54 => absurd h2 hc54)
  refine MW.aload_n dX6_pallet_61 rfl ?_
  refine MW.getf fX6_pallet_62 18 rfl rfl ?_
  refine MW.bipush (v := 8) dX6_pallet_65 (by decide) ?_
  refine MW.icmp_ne 74 dX6_pallet_67 (by decide) (fun hc67 => ?_) (fun hc67 => absurd hc67 (show ¬ i 17 = 8 by rw [hk]; exact fun z => absurd ((nI_eq (b := 8) (by omega) (by omega)).mp z) (by omega)))
  refine MW.iconst (v := 0) dX6_pallet_74 (by decide) ?_
  refine MW.putf fX6_pallet_75 18 rfl (rfl) (rfl) rfl ?_
  refine MW.heap hw_s6_8 ?_
  refine MW.aload_n dX6_pallet_78 rfl ?_
  refine MW.getf fX6_pallet_79 18 rfl rfl ?_
  refine MW.if_eq 87 dX6_pallet_82 (by decide) (fun hc82 => ?_) (fun hc82 => absurd (show (0 : Int32) = 0 from rfl) hc82)
  refine MW.aload_n dX6_pallet_87 rfl ?_
  refine MW.getf fX6_pallet_88 18 rfl rfl ?_
  refine MW.aload_n dX6_pallet_91 rfl ?_
  refine MW.getf fX6_pallet_92 18 rfl rfl ?_
  refine MW.top (v' := .int (nI k)) (by show Value.int (i 17) = _; rw [hk]) ?_
  refine MW.iload_n dX6_pallet_95 rfl ?_
  refine MW.isj dX6_pallet_96 21 0 rfl rfl hk7 (by decide) ?_
  refine MW.heap hw_a21 ?_
  refine MW.aload_n dX6_pallet_97 rfl ?_
  refine MW.getf fX6_pallet_98 18 rfl rfl ?_
  refine MW.aload_n dX6_pallet_101 rfl ?_
  refine MW.getf fX6_pallet_102 18 rfl rfl ?_
  refine MW.top (v' := .int (nI k)) (by show Value.int (i 17) = _; rw [hk]) ?_
  refine MW.iload_n dX6_pallet_105 rfl ?_
  refine MW.zsj dX6_pallet_106 22 1 rfl rfl hk7 (by decide) (hy) ?_
  refine MW.heap hw_a22 ?_
  refine MW.aload_n dX6_pallet_107 rfl ?_
  refine MW.getf fX6_pallet_108 18 rfl rfl ?_
  refine MW.aload_n dX6_pallet_111 rfl ?_
  refine MW.getf fX6_pallet_112 18 rfl rfl ?_
  refine MW.top (v' := .int (nI k)) (by show Value.int (i 17) = _; rw [hk]) ?_
  refine MW.iload_n dX6_pallet_115 rfl ?_
  refine MW.zsj dX6_pallet_116 23 1 rfl rfl hk7 (by decide) (hz) ?_
  refine MW.heap hw_a23 ?_
  refine MW.aload_n dX6_pallet_117 rfl ?_
  refine MW.getf fX6_pallet_118 18 rfl rfl ?_
  refine MW.aload_n dX6_pallet_121 rfl ?_
  refine MW.getf fX6_pallet_122 18 rfl rfl ?_
  refine MW.top (v' := .int (nI k)) (by show Value.int (i 17) = _; rw [hk]) ?_
  refine MW.iload dX6_pallet_125 rfl ?_
  refine MW.isj dX6_pallet_127 24 0 rfl rfl hk7 (by decide) ?_
  refine MW.heap hw_a24 ?_
  refine MW.aload_n dX6_pallet_128 rfl ?_
  refine MW.getf fX6_pallet_129 18 rfl rfl ?_
  refine MW.aload_n dX6_pallet_132 rfl ?_
  refine MW.getf fX6_pallet_133 18 rfl rfl ?_
  refine MW.top (v' := .int (nI k)) (by show Value.int (i 17) = _; rw [hk]) ?_
  refine MW.iload dX6_pallet_136 rfl ?_
  refine MW.isj dX6_pallet_138 25 0 rfl rfl hk7 (by decide) ?_
  refine MW.heap hw_a25 ?_
  refine MW.aload_n dX6_pallet_139 rfl ?_
  refine MW.getf fX6_pallet_140 18 rfl rfl ?_
  refine MW.aload_n dX6_pallet_143 rfl ?_
  refine MW.getf fX6_pallet_144 18 rfl rfl ?_
  refine MW.top (v' := .int (nI k)) (by show Value.int (i 17) = _; rw [hk]) ?_
  refine MW.iconst (v := -1) dX6_pallet_147 (by decide) ?_
  refine MW.isj dX6_pallet_148 26 0 rfl rfl hk7 (by decide) ?_
  refine MW.heap hw_a26 ?_
  refine MW.aload_n dX6_pallet_149 rfl ?_
  refine MW.dup dX6_pallet_150 rfl ?_
  refine MW.getf fX6_pallet_151 18 rfl rfl ?_
  refine MW.top (v' := .int (nI k)) (by show Value.int (i 17) = _; rw [hk]) ?_
  refine MW.iconst (v := 1) dX6_pallet_154 (by decide) ?_
  refine MW.iadd dX6_pallet_155 ?_
  refine MW.top (v' := .int (nI (k + 1))) (by rw [nI_1]) ?_
  refine MW.putf fX6_pallet_156 18 rfl (rfl) (rfl) rfl ?_
  refine MW.heap hw_s6_7 ?_
  refine MW.aload_n dX6_pallet_159 rfl ?_
  refine MW.getf fX6_pallet_160 18 rfl rfl ?_
  refine MW.iconst (v := 1) dX6_pallet_163 (by decide) ?_
  refine MW.isub dX6_pallet_164 ?_
  refine MW.top (v' := .int (nI k)) (by show Value.int (nI (k + 1) - 1) = _; rw [nI_pred]) ?_
  exact MW.ireturn dX6_pallet_165 rfl (rfl) rt_r
set_option maxHeartbeats 2000000 in
theorem m_solve_1 {x : Int32} (h1 : ¬ (0 ≤ x ∧ x ≤ 5)) : MC (En l D t b L xs) MX6_solve 20 [.ref (q 18), .int x] (hw t q i a w) mc ms (rt (some (.int 0)) (hw t q (upd i 18 1) a w) mc ms) := by
  show MW _ _ _ 0 [some (.ref (q 18)), some (.int x)] [] _ _ _ _
  refine MW.aload_n dX6_solve_0 rfl ?_
  refine MW.iload_n dX6_solve_1 rfl ?_
  refine MW.iconst (v := 0) dX6_solve_2 (by decide) ?_
  refine MW.iconst (v := 5) dX6_solve_3 (by decide) ?_
  refine MW.callS1 fX6_solve_4 (c_within) rfl rfl rfl rfl (Nat.le_of_ble_eq_true rfl) ?_
  refine MW.if_ne 14 dX6_solve_7 (by decide) (fun hc7 => absurd (bI_0.mpr h1) hc7) (fun hc7 => ?_)
  refine MW.iconst (v := 1) dX6_solve_10 (by decide) ?_
  refine MW.goto 33 dX6_solve_11 (by decide) ?_
  refine MW.putf fX6_solve_33 18 rfl (rfl) (rfl) rfl ?_
  refine MW.heap hw_s6_8 ?_
  refine MW.aload_n dX6_solve_36 rfl ?_
  refine MW.getf fX6_solve_37 18 rfl rfl ?_
  refine MW.if_eq 45 dX6_solve_40 (by decide) (fun hc40 => absurd hc40 (show ¬ (1 : Int32) = 0 by decide)) (fun hc40 => ?_)
  refine MW.iconst (v := 0) dX6_solve_43 (by decide) ?_
  exact MW.ireturn dX6_solve_44 rfl (rfl) rt_r
set_option maxHeartbeats 2000000 in
theorem m_solve_2 {x : Int32} (h1 : 0 ≤ x ∧ x ≤ 5) (h2 : ¬ i 20 = 0 ∨ ¬ i 21 = 0) : MC (En l D t b L xs) MX6_solve 20 [.ref (q 18), .int x] (hw t q i a w) mc ms (rt (some (.int 0)) (hw t q (upd i 18 2) a w) mc ms) := by
  show MW _ _ _ 0 [some (.ref (q 18)), some (.int x)] [] _ _ _ _
  refine MW.aload_n dX6_solve_0 rfl ?_
  refine MW.iload_n dX6_solve_1 rfl ?_
  refine MW.iconst (v := 0) dX6_solve_2 (by decide) ?_
  refine MW.iconst (v := 5) dX6_solve_3 (by decide) ?_
  refine MW.callS1 fX6_solve_4 (c_within) rfl rfl rfl rfl (Nat.le_of_ble_eq_true rfl) ?_
  refine MW.if_ne 14 dX6_solve_7 (by decide) (fun hc7 => ?_) (fun hc7 => absurd hc7 (fun z => zz z h1))
  refine MW.aload_n dX6_solve_14 rfl ?_
  refine MW.getf fX6_solve_15 18 rfl rfl ?_
  refine MW.if_ne 28 dX6_solve_18 (by decide) (fun hc18 => ?_) (fun hc18 => ?_)
  · skip
    refine MW.iconst (v := 2) dX6_solve_28 (by decide) ?_
    refine MW.goto 33 dX6_solve_29 (by decide) ?_
    refine MW.putf fX6_solve_33 18 rfl (rfl) (rfl) rfl ?_
    refine MW.heap hw_s6_8 ?_
    refine MW.aload_n dX6_solve_36 rfl ?_
    refine MW.getf fX6_solve_37 18 rfl rfl ?_
    refine MW.if_eq 45 dX6_solve_40 (by decide) (fun hc40 => absurd hc40 (show ¬ (2 : Int32) = 0 by decide)) (fun hc40 => ?_)
    refine MW.iconst (v := 0) dX6_solve_43 (by decide) ?_
    exact MW.ireturn dX6_solve_44 rfl (rfl) rt_r
  · skip
    refine MW.aload_n dX6_solve_21 rfl ?_
    refine MW.getf fX6_solve_22 18 rfl rfl ?_
    refine MW.if_eq 32 dX6_solve_25 (by decide) (fun hc25 => absurd hc25 (h2.resolve_left (fun z => z hc18))) (fun hc25 => ?_)
    refine MW.iconst (v := 2) dX6_solve_28 (by decide) ?_
    refine MW.goto 33 dX6_solve_29 (by decide) ?_
    refine MW.putf fX6_solve_33 18 rfl (rfl) (rfl) rfl ?_
    refine MW.heap hw_s6_8 ?_
    refine MW.aload_n dX6_solve_36 rfl ?_
    refine MW.getf fX6_solve_37 18 rfl rfl ?_
    refine MW.if_eq 45 dX6_solve_40 (by decide) (fun hc40 => absurd hc40 (show ¬ (2 : Int32) = 0 by decide)) (fun hc40 => ?_)
    refine MW.iconst (v := 0) dX6_solve_43 (by decide) ?_
    exact MW.ireturn dX6_solve_44 rfl (rfl) rt_r
set_option maxHeartbeats 2000000 in
theorem m_solve_e {k : Nat} (hk : i 17 = nI k) (hk8 : k ≤ 8) {n : Nat} (hn : i 12 = nI n) (hn12 : n ≤ 12) {x : Int32} (h1 : 0 ≤ x ∧ x ≤ 5) (h2 : i 20 = 0) (h3 : i 21 = 0) (h4 : nI k ≤ x) : MC (En l D t b L xs) MX6_solve 20 [.ref (q 18), .int x] (hw t q i a w) mc ms (rt (some (.int (stn (cpk (mxB (upd (upd i 18 0) 19 1) a n k) (tko (a 17) k) k) k))) (hx t q (upd (upd i 18 0) 19 1) a w (cpk (mxB (upd (upd i 18 0) 19 1) a n k) (tko (a 17) k) k) (mxB (upd (upd i 18 0) 19 1) a n k)) mc ms) := by
  show MW _ _ _ 0 [some (.ref (q 18)), some (.int x)] [] _ _ _ _
  refine MW.aload_n dX6_solve_0 rfl ?_
  refine MW.iload_n dX6_solve_1 rfl ?_
  refine MW.iconst (v := 0) dX6_solve_2 (by decide) ?_
  refine MW.iconst (v := 5) dX6_solve_3 (by decide) ?_
  refine MW.callS1 fX6_solve_4 (c_within) rfl rfl rfl rfl (Nat.le_of_ble_eq_true rfl) ?_
  refine MW.if_ne 14 dX6_solve_7 (by decide) (fun hc7 => ?_) (fun hc7 => absurd hc7 (fun z => zz z h1))
  refine MW.aload_n dX6_solve_14 rfl ?_
  refine MW.getf fX6_solve_15 18 rfl rfl ?_
  refine MW.if_ne 28 dX6_solve_18 (by decide) (fun hc18 => absurd (show i 20 = 0 from h2) hc18) (fun hc18 => ?_)
  refine MW.aload_n dX6_solve_21 rfl ?_
  refine MW.getf fX6_solve_22 18 rfl rfl ?_
  refine MW.if_eq 32 dX6_solve_25 (by decide) (fun hc25 => ?_) (fun hc25 => absurd (show i 21 = 0 from h3) hc25)
  refine MW.iconst (v := 0) dX6_solve_32 (by decide) ?_
  refine MW.putf fX6_solve_33 18 rfl (rfl) (rfl) rfl ?_
  refine MW.heap hw_s6_8 ?_
  refine MW.aload_n dX6_solve_36 rfl ?_
  refine MW.getf fX6_solve_37 18 rfl rfl ?_
  refine MW.if_eq 45 dX6_solve_40 (by decide) (fun hc40 => ?_) (fun hc40 => absurd (show (0 : Int32) = 0 from rfl) hc40)
  refine MW.aload_n dX6_solve_45 rfl ?_
  refine MW.aload_n dX6_solve_46 rfl ?_
  refine MW.getf fX6_solve_47 18 rfl rfl ?_
  refine MW.iload_n dX6_solve_50 rfl ?_
  refine MW.icmp_gt 58 dX6_solve_51 (by decide) (fun hc51 => absurd hc51 (show ¬ x < i 17 by rw [hk]; exact Int32.not_lt.mpr h4)) (fun hc51 => ?_)
  refine MW.iconst (v := 1) dX6_solve_54 (by decide) ?_
  refine MW.goto 59 dX6_solve_55 (by decide) ?_
  refine MW.putf fX6_solve_59 18 rfl (rfl) (rfl) rfl ?_
  refine MW.heap hw_s6_16 ?_
  refine MW.aload_n dX6_solve_62 rfl ?_
  refine MW.getf fX6_solve_63 18 rfl rfl ?_
  refine MW.if_eq 76 dX6_solve_66 (by decide) (fun hc66 => absurd hc66 (show ¬ (1 : Int32) = 0 by decide)) (fun hc66 => ?_)
  refine MW.aload_n dX6_solve_69 rfl ?_
  refine MW.callV0 fX6_solve_70 18 rfl (m_solveExactly (i := (upd (upd i 18 0) 19 1)) hk hk8 hn hn12) rfl rfl rfl rfl (Nat.le_of_ble_eq_true rfl) ?_
  refine MW.goto 80 dX6_solve_73 (by decide) ?_
  refine MW.aload_n dX6_solve_80 rfl ?_
  refine MW.callV1 fX6_solve_81 18 rfl (m_standing (i := (upd (upd i 18 0) 19 1)) (a := au (au a 17 (cpk (mxB (upd (upd i 18 0) 19 1) a n k) (tko (a 17) k) k)) 18 (mxB (upd (upd i 18 0) 19 1) a n k)) hk hk8) rfl rfl rfl rfl (Nat.le_of_ble_eq_true rfl) ?_
  exact MW.ireturn dX6_solve_84 rfl (rfl) ⟨rfl, rfl, rfl, rfl⟩
set_option maxHeartbeats 2000000 in
theorem m_solve_r {k : Nat} (hk : i 17 = nI k) (hk8 : k ≤ 8) {n : Nat} (hn : i 12 = nI n) (hn12 : n ≤ 12) {x : Int32} (h1 : 0 ≤ x ∧ x ≤ 5) (h2 : i 20 = 0) (h3 : i 21 = 0) (h4 : ¬ nI k ≤ x) : MC (En l D t b L xs) MX6_solve 20 [.ref (q 18), .int x] (hw t q i a w) mc ms (rt (some (.int (stn (pmo a n k 9 (0, tko (a 17) k)).2 k))) (hw t q (upd (upd i 18 0) 19 0) (au a 17 (pmo a n k 9 (0, tko (a 17) k)).2) w) mc ms) := by
  show MW _ _ _ 0 [some (.ref (q 18)), some (.int x)] [] _ _ _ _
  refine MW.aload_n dX6_solve_0 rfl ?_
  refine MW.iload_n dX6_solve_1 rfl ?_
  refine MW.iconst (v := 0) dX6_solve_2 (by decide) ?_
  refine MW.iconst (v := 5) dX6_solve_3 (by decide) ?_
  refine MW.callS1 fX6_solve_4 (c_within) rfl rfl rfl rfl (Nat.le_of_ble_eq_true rfl) ?_
  refine MW.if_ne 14 dX6_solve_7 (by decide) (fun hc7 => ?_) (fun hc7 => absurd hc7 (fun z => zz z h1))
  refine MW.aload_n dX6_solve_14 rfl ?_
  refine MW.getf fX6_solve_15 18 rfl rfl ?_
  refine MW.if_ne 28 dX6_solve_18 (by decide) (fun hc18 => absurd (show i 20 = 0 from h2) hc18) (fun hc18 => ?_)
  refine MW.aload_n dX6_solve_21 rfl ?_
  refine MW.getf fX6_solve_22 18 rfl rfl ?_
  refine MW.if_eq 32 dX6_solve_25 (by decide) (fun hc25 => ?_) (fun hc25 => absurd (show i 21 = 0 from h3) hc25)
  refine MW.iconst (v := 0) dX6_solve_32 (by decide) ?_
  refine MW.putf fX6_solve_33 18 rfl (rfl) (rfl) rfl ?_
  refine MW.heap hw_s6_8 ?_
  refine MW.aload_n dX6_solve_36 rfl ?_
  refine MW.getf fX6_solve_37 18 rfl rfl ?_
  refine MW.if_eq 45 dX6_solve_40 (by decide) (fun hc40 => ?_) (fun hc40 => absurd (show (0 : Int32) = 0 from rfl) hc40)
  refine MW.aload_n dX6_solve_45 rfl ?_
  refine MW.aload_n dX6_solve_46 rfl ?_
  refine MW.getf fX6_solve_47 18 rfl rfl ?_
  refine MW.iload_n dX6_solve_50 rfl ?_
  refine MW.icmp_gt 58 dX6_solve_51 (by decide) (fun hc51 => ?_) (fun hc51 => absurd (show x < i 17 by rw [hk]; exact Int32.not_le.mp h4) hc51)
  refine MW.iconst (v := 0) dX6_solve_58 (by decide) ?_
  refine MW.putf fX6_solve_59 18 rfl (rfl) (rfl) rfl ?_
  refine MW.heap hw_s6_16 ?_
  refine MW.aload_n dX6_solve_62 rfl ?_
  refine MW.getf fX6_solve_63 18 rfl rfl ?_
  refine MW.if_eq 76 dX6_solve_66 (by decide) (fun hc66 => ?_) (fun hc66 => absurd (show (0 : Int32) = 0 from rfl) hc66)
  refine MW.aload_n dX6_solve_76 rfl ?_
  refine MW.callV0 fX6_solve_77 18 rfl (m_solveByRule (i := (upd (upd i 18 0) 19 0)) hk hk8 hn hn12) rfl rfl rfl rfl (Nat.le_of_ble_eq_true rfl) ?_
  refine MW.aload_n dX6_solve_80 rfl ?_
  refine MW.callV1 fX6_solve_81 18 rfl (m_standing (i := (upd (upd i 18 0) 19 0)) (a := au a 17 (pmo a n k 9 (0, tko (a 17) k)).2) hk hk8) rfl rfl rfl rfl (Nat.le_of_ble_eq_true rfl) ?_
  exact MW.ireturn dX6_solve_84 rfl (rfl) ⟨rfl, rfl, rfl, rfl⟩
set_option maxHeartbeats 2000000 in
theorem m_exact (hb : i 19 = 0 ∨ i 19 = 1) : MC (En l D t b L xs) MX6_exact 20 [.ref (q 18)] (hw t q i a w) mc ms (rt (some (.int (i 19))) (hw t q (upd i 18 0) a w) mc ms) := by
  show MW _ _ _ 0 [some (.ref (q 18))] [] _ _ _ _
  refine MW.aload_n dX6_exact_0 rfl ?_
  refine MW.iconst (v := 0) dX6_exact_1 (by decide) ?_
  refine MW.putf fX6_exact_2 18 rfl (rfl) (rfl) rfl ?_
  refine MW.heap hw_s6_8 ?_
  refine MW.aload_n dX6_exact_5 rfl ?_
  refine MW.getf fX6_exact_6 18 rfl rfl ?_
  exact MW.ireturn dX6_exact_9 rfl (nar_b (show upd i 18 0 19 = 0 ∨ upd i 18 0 19 = 1 from hb)) ⟨rfl, rfl, rfl, rfl⟩
set_option maxHeartbeats 2000000 in
theorem m_place_1 {k : Nat} (hk : i 17 = nI k) (hk8 : k ≤ 8) {p c : Int32} (h1 : ¬ (0 ≤ p ∧ p < nI k)) : MC (En l D t b L xs) MX6_place 20 [.ref (q 18), .int p, .int c] (hw t q i a w) mc ms (rt (some (.int 0)) (hw t q (upd i 18 1) a w) mc ms) := by
  show MW _ _ _ 0 [some (.ref (q 18)), some (.int p), some (.int c), none] [] _ _ _ _
  refine MW.aload_n dX6_place_0 rfl ?_
  refine MW.aload_n dX6_place_1 rfl ?_
  refine MW.iload_n dX6_place_2 rfl ?_
  refine MW.callV1 fX6_place_3 18 rfl (m_isPallet) rfl rfl rfl rfl (Nat.le_of_ble_eq_true rfl) ?_
  refine MW.if_ne 13 dX6_place_6 (by decide) (fun hc6 => absurd (bI_0.mpr (fun z => h1 (by rw [hk] at z; exact z))) hc6) (fun hc6 => ?_)
  refine MW.iconst (v := 1) dX6_place_9 (by decide) ?_
  refine MW.goto 50 dX6_place_10 (by decide) ?_
  refine MW.putf fX6_place_50 18 rfl (rfl) (rfl) rfl ?_
  refine MW.heap hw_s6_8 ?_
  refine MW.aload_n dX6_place_53 rfl ?_
  refine MW.getf fX6_place_54 18 rfl rfl ?_
  refine MW.if_eq 62 dX6_place_57 (by decide) (fun hc57 => absurd hc57 (show ¬ (1 : Int32) = 0 by decide)) (fun hc57 => ?_)
  refine MW.iconst (v := 0) dX6_place_60 (by decide) ?_
  exact MW.ireturn dX6_place_61 rfl (rfl) rt_r
set_option maxHeartbeats 2000000 in
theorem m_place_2 {k : Nat} (hk : i 17 = nI k) (hk8 : k ≤ 8) {n : Nat} (hn : i 12 = nI n) (hn12 : n ≤ 12) {j : Nat} (hj : j < k) {c : Int32} (h2 : ¬ (c = -1 ∨ (0 ≤ c ∧ c < nI n))) : MC (En l D t b L xs) MX6_place 20 [.ref (q 18), .int (nI j), .int c] (hw t q i a w) mc ms (rt (some (.int 0)) (hw t q (upd i 18 2) a w) mc ms) := by
  show MW _ _ _ 0 [some (.ref (q 18)), some (.int (nI j)), some (.int c), none] [] _ _ _ _
  refine MW.aload_n dX6_place_0 rfl ?_
  refine MW.aload_n dX6_place_1 rfl ?_
  refine MW.iload_n dX6_place_2 rfl ?_
  refine MW.callV1 fX6_place_3 18 rfl (m_isPallet) rfl rfl rfl rfl (Nat.le_of_ble_eq_true rfl) ?_
  refine MW.if_ne 13 dX6_place_6 (by decide) (fun hc6 => ?_) (fun hc6 => absurd hc6 (fun z => zz z ⟨nI_pos' (by omega), by rw [hk]; exact nI_lt hj (by omega)⟩))
  refine MW.iload_n dX6_place_13 rfl ?_
  refine MW.iconst (v := -1) dX6_place_14 (by decide) ?_
  refine MW.aload_n dX6_place_15 rfl ?_
  refine MW.getf fX6_place_16 18 rfl rfl ?_
  refine MW.iconst (v := 1) dX6_place_19 (by decide) ?_
  refine MW.isub dX6_place_20 ?_
  refine MW.top (v' := .int (nI n - 1)) (by rw [hn]) ?_
  refine MW.callS1 fX6_place_21 (c_within) rfl rfl rfl rfl (Nat.le_of_ble_eq_true rfl) ?_
  refine MW.if_ne 31 dX6_place_24 (by decide) (fun hc24 => absurd (bI_0.mpr (fun z => h2 (m1_in (by omega) z))) hc24) (fun hc24 => ?_)
  refine MW.iconst (v := 2) dX6_place_27 (by decide) ?_
  refine MW.goto 50 dX6_place_28 (by decide) ?_
  refine MW.putf fX6_place_50 18 rfl (rfl) (rfl) rfl ?_
  refine MW.heap hw_s6_8 ?_
  refine MW.aload_n dX6_place_53 rfl ?_
  refine MW.getf fX6_place_54 18 rfl rfl ?_
  refine MW.if_eq 62 dX6_place_57 (by decide) (fun hc57 => absurd hc57 (show ¬ (2 : Int32) = 0 by decide)) (fun hc57 => ?_)
  refine MW.iconst (v := 0) dX6_place_60 (by decide) ?_
  exact MW.ireturn dX6_place_61 rfl (rfl) rt_r
set_option maxHeartbeats 2000000 in
theorem m_place_3 {k : Nat} (hk : i 17 = nI k) (hk8 : k ≤ 8) {n : Nat} (hn : i 12 = nI n) (hn12 : n ≤ 12) {j : Nat} (hj : j < k) {c : Int32} (h2 : c = -1 ∨ (0 ≤ c ∧ c < nI n)) (h3 : i 20 = 0 ∨ ¬ i 21 = 0) : MC (En l D t b L xs) MX6_place 20 [.ref (q 18), .int (nI j), .int c] (hw t q i a w) mc ms (rt (some (.int 0)) (hw t q (upd i 18 3) a w) mc ms) := by
  show MW _ _ _ 0 [some (.ref (q 18)), some (.int (nI j)), some (.int c), none] [] _ _ _ _
  refine MW.aload_n dX6_place_0 rfl ?_
  refine MW.aload_n dX6_place_1 rfl ?_
  refine MW.iload_n dX6_place_2 rfl ?_
  refine MW.callV1 fX6_place_3 18 rfl (m_isPallet) rfl rfl rfl rfl (Nat.le_of_ble_eq_true rfl) ?_
  refine MW.if_ne 13 dX6_place_6 (by decide) (fun hc6 => ?_) (fun hc6 => absurd hc6 (fun z => zz z ⟨nI_pos' (by omega), by rw [hk]; exact nI_lt hj (by omega)⟩))
  refine MW.iload_n dX6_place_13 rfl ?_
  refine MW.iconst (v := -1) dX6_place_14 (by decide) ?_
  refine MW.aload_n dX6_place_15 rfl ?_
  refine MW.getf fX6_place_16 18 rfl rfl ?_
  refine MW.iconst (v := 1) dX6_place_19 (by decide) ?_
  refine MW.isub dX6_place_20 ?_
  refine MW.top (v' := .int (nI n - 1)) (by rw [hn]) ?_
  refine MW.callS1 fX6_place_21 (c_within) rfl rfl rfl rfl (Nat.le_of_ble_eq_true rfl) ?_
  refine MW.if_ne 31 dX6_place_24 (by decide) (fun hc24 => ?_) (fun hc24 => absurd hc24 (fun z => zz z (m1_of (by omega) h2)))
  refine MW.aload_n dX6_place_31 rfl ?_
  refine MW.getf fX6_place_32 18 rfl rfl ?_
  refine MW.if_eq 45 dX6_place_35 (by decide) (fun hc35 => ?_) (fun hc35 => ?_)
  · skip
    refine MW.iconst (v := 3) dX6_place_45 (by decide) ?_
    refine MW.goto 50 dX6_place_46 (by decide) ?_
    refine MW.putf fX6_place_50 18 rfl (rfl) (rfl) rfl ?_
    refine MW.heap hw_s6_8 ?_
    refine MW.aload_n dX6_place_53 rfl ?_
    refine MW.getf fX6_place_54 18 rfl rfl ?_
    refine MW.if_eq 62 dX6_place_57 (by decide) (fun hc57 => absurd hc57 (show ¬ (3 : Int32) = 0 by decide)) (fun hc57 => ?_)
    refine MW.iconst (v := 0) dX6_place_60 (by decide) ?_
    exact MW.ireturn dX6_place_61 rfl (rfl) rt_r
  · skip
    refine MW.aload_n dX6_place_38 rfl ?_
    refine MW.getf fX6_place_39 18 rfl rfl ?_
    refine MW.if_eq 49 dX6_place_42 (by decide) (fun hc42 => absurd hc42 (h3.resolve_left hc35)) (fun hc42 => ?_)
    refine MW.iconst (v := 3) dX6_place_45 (by decide) ?_
    refine MW.goto 50 dX6_place_46 (by decide) ?_
    refine MW.putf fX6_place_50 18 rfl (rfl) (rfl) rfl ?_
    refine MW.heap hw_s6_8 ?_
    refine MW.aload_n dX6_place_53 rfl ?_
    refine MW.getf fX6_place_54 18 rfl rfl ?_
    refine MW.if_eq 62 dX6_place_57 (by decide) (fun hc57 => absurd hc57 (show ¬ (3 : Int32) = 0 by decide)) (fun hc57 => ?_)
    refine MW.iconst (v := 0) dX6_place_60 (by decide) ?_
    exact MW.ireturn dX6_place_61 rfl (rfl) rt_r
set_option maxHeartbeats 2000000 in
theorem m_place_out {k : Nat} (hk : i 17 = nI k) (hk8 : k ≤ 8) {n : Nat} (hn : i 12 = nI n) (hn12 : n ≤ 12) {j : Nat} (hj : j < k) (h3 : ¬ i 20 = 0) (h4 : i 21 = 0) : MC (En l D t b L xs) MX6_place 20 [.ref (q 18), .int (nI j), .int (-1)] (hw t q i a w) mc ms (rt (some (.int 0)) (hw t q (upd i 18 0) (au a 17 (upd (a 17) j (-1))) w) mc ms) := by
  show MW _ _ _ 0 [some (.ref (q 18)), some (.int (nI j)), some (.int (-1)), none] [] _ _ _ _
  refine MW.aload_n dX6_place_0 rfl ?_
  refine MW.aload_n dX6_place_1 rfl ?_
  refine MW.iload_n dX6_place_2 rfl ?_
  refine MW.callV1 fX6_place_3 18 rfl (m_isPallet) rfl rfl rfl rfl (Nat.le_of_ble_eq_true rfl) ?_
  refine MW.if_ne 13 dX6_place_6 (by decide) (fun hc6 => ?_) (fun hc6 => absurd hc6 (fun z => zz z ⟨nI_pos' (by omega), by rw [hk]; exact nI_lt hj (by omega)⟩))
  refine MW.iload_n dX6_place_13 rfl ?_
  refine MW.iconst (v := -1) dX6_place_14 (by decide) ?_
  refine MW.aload_n dX6_place_15 rfl ?_
  refine MW.getf fX6_place_16 18 rfl rfl ?_
  refine MW.iconst (v := 1) dX6_place_19 (by decide) ?_
  refine MW.isub dX6_place_20 ?_
  refine MW.top (v' := .int (nI n - 1)) (by rw [hn]) ?_
  refine MW.callS1 fX6_place_21 (c_within) rfl rfl rfl rfl (Nat.le_of_ble_eq_true rfl) ?_
  refine MW.if_ne 31 dX6_place_24 (by decide) (fun hc24 => ?_) (fun hc24 => absurd hc24 (fun z => zz z (m1_of (by omega) (Or.inl rfl))))
  refine MW.aload_n dX6_place_31 rfl ?_
  refine MW.getf fX6_place_32 18 rfl rfl ?_
  refine MW.if_eq 45 dX6_place_35 (by decide) (fun hc35 => absurd hc35 (show ¬ i 20 = 0 from h3)) (fun hc35 => ?_)
  refine MW.aload_n dX6_place_38 rfl ?_
  refine MW.getf fX6_place_39 18 rfl rfl ?_
  refine MW.if_eq 49 dX6_place_42 (by decide) (fun hc42 => ?_) (fun hc42 => absurd (show i 21 = 0 from h4) hc42)
  refine MW.iconst (v := 0) dX6_place_49 (by decide) ?_
  refine MW.putf fX6_place_50 18 rfl (rfl) (rfl) rfl ?_
  refine MW.heap hw_s6_8 ?_
  refine MW.aload_n dX6_place_53 rfl ?_
  refine MW.getf fX6_place_54 18 rfl rfl ?_
  refine MW.if_eq 62 dX6_place_57 (by decide) (fun hc57 => ?_) (fun hc57 => absurd (show (0 : Int32) = 0 from rfl) hc57)
  refine MW.iload_n dX6_place_62 rfl ?_
  refine MW.iconst (v := -1) dX6_place_63 (by decide) ?_
  refine MW.icmp_ne 71 dX6_place_64 (by decide) (fun hc64 => absurd rfl hc64) (fun hc64 => ?_)
  refine MW.iconst (v := 0) dX6_place_67 (by decide) ?_
  refine MW.goto 77 dX6_place_68 (by decide) ?_
  refine MW.istore_n dX6_place_77 rfl rfl ?_
  refine MW.iload_n dX6_place_78 rfl ?_
  refine MW.if_ne 89 dX6_place_79 (by decide) (fun hc79 => absurd (show (0 : Int32) = 0 from rfl) hc79) (fun hc79 => ?_)
  refine MW.aload_n dX6_place_82 rfl ?_
  refine MW.getf fX6_place_83 18 rfl rfl ?_
  refine MW.iload_n dX6_place_86 rfl ?_
  refine MW.iload_n dX6_place_87 rfl ?_
  refine MW.isj dX6_place_88 26 0 rfl rfl (show j < 8 by omega) (by decide) ?_
  refine MW.heap hw_a26 ?_
  refine MW.iload_n dX6_place_89 rfl ?_
  exact MW.ireturn dX6_place_90 rfl (rfl) rt_r
set_option maxHeartbeats 2000000 in
theorem m_place_in {k : Nat} (hk : i 17 = nI k) (hk8 : k ≤ 8) {n : Nat} (hn : i 12 = nI n) (hn12 : n ≤ 12) {j : Nat} (hj : j < k) {m : Nat} (hm : m < n) (h3 : ¬ i 20 = 0) (h4 : i 21 = 0) : MC (En l D t b L xs) MX6_place 20 [.ref (q 18), .int (nI j), .int (nI m)] (hw t q i a w) mc ms (rt (some (.int (sfd (ko a k j (nI m)) (cI (brM (upd i 18 0) (a 12) (upd (a 17) j (nI m)) k) 0 6) 5 1))) (hw t q (upd i 18 0) (au a 17 (@ite (Nat → Int32) ((sfd (ko a k j (nI m)) (cI (brM (upd i 18 0) (a 12) (upd (a 17) j (nI m)) k) 0 6) 5 1) = 0) inferInstance (upd (a 17) j (nI m)) (a 17))) w) mc ms) := by
  show MW _ _ _ 0 [some (.ref (q 18)), some (.int (nI j)), some (.int (nI m)), none] [] _ _ _ _
  refine MW.aload_n dX6_place_0 rfl ?_
  refine MW.aload_n dX6_place_1 rfl ?_
  refine MW.iload_n dX6_place_2 rfl ?_
  refine MW.callV1 fX6_place_3 18 rfl (m_isPallet) rfl rfl rfl rfl (Nat.le_of_ble_eq_true rfl) ?_
  refine MW.if_ne 13 dX6_place_6 (by decide) (fun hc6 => ?_) (fun hc6 => absurd hc6 (fun z => zz z ⟨nI_pos' (by omega), by rw [hk]; exact nI_lt hj (by omega)⟩))
  refine MW.iload_n dX6_place_13 rfl ?_
  refine MW.iconst (v := -1) dX6_place_14 (by decide) ?_
  refine MW.aload_n dX6_place_15 rfl ?_
  refine MW.getf fX6_place_16 18 rfl rfl ?_
  refine MW.iconst (v := 1) dX6_place_19 (by decide) ?_
  refine MW.isub dX6_place_20 ?_
  refine MW.top (v' := .int (nI n - 1)) (by rw [hn]) ?_
  refine MW.callS1 fX6_place_21 (c_within) rfl rfl rfl rfl (Nat.le_of_ble_eq_true rfl) ?_
  refine MW.if_ne 31 dX6_place_24 (by decide) (fun hc24 => ?_) (fun hc24 => absurd hc24 (fun z => zz z (m1_of (by omega) (Or.inr ⟨nI_pos' (by omega), nI_lt hm (by omega)⟩))))
  refine MW.aload_n dX6_place_31 rfl ?_
  refine MW.getf fX6_place_32 18 rfl rfl ?_
  refine MW.if_eq 45 dX6_place_35 (by decide) (fun hc35 => absurd hc35 (show ¬ i 20 = 0 from h3)) (fun hc35 => ?_)
  refine MW.aload_n dX6_place_38 rfl ?_
  refine MW.getf fX6_place_39 18 rfl rfl ?_
  refine MW.if_eq 49 dX6_place_42 (by decide) (fun hc42 => ?_) (fun hc42 => absurd (show i 21 = 0 from h4) hc42)
  refine MW.iconst (v := 0) dX6_place_49 (by decide) ?_
  refine MW.putf fX6_place_50 18 rfl (rfl) (rfl) rfl ?_
  refine MW.heap hw_s6_8 ?_
  refine MW.aload_n dX6_place_53 rfl ?_
  refine MW.getf fX6_place_54 18 rfl rfl ?_
  refine MW.if_eq 62 dX6_place_57 (by decide) (fun hc57 => ?_) (fun hc57 => absurd (show (0 : Int32) = 0 from rfl) hc57)
  refine MW.iload_n dX6_place_62 rfl ?_
  refine MW.iconst (v := -1) dX6_place_63 (by decide) ?_
  refine MW.icmp_ne 71 dX6_place_64 (by decide) (fun hc64 => ?_) (fun hc64 => absurd hc64 (nI_m1 (by omega)))
  refine MW.aload_n dX6_place_71 rfl ?_
  refine MW.iload_n dX6_place_72 rfl ?_
  refine MW.iload_n dX6_place_73 rfl ?_
  refine MW.callV1 fX6_place_74 18 rfl (m_bars (i := (upd i 18 0)) hk hk8 (show j < 8 by omega) (show m < 12 by omega)) rfl rfl rfl rfl (Nat.le_of_ble_eq_true rfl) ?_
  refine MW.istore_n dX6_place_77 rfl rfl ?_
  refine MW.iload_n dX6_place_78 rfl ?_
  refine MW.if_ne 89 dX6_place_79 (by decide) (fun hc79 => ?_) (fun hc79 => ?_)
  · skip
    refine MW.iload_n dX6_place_89 rfl ?_
    exact MW.ireturn dX6_place_90 rfl (rfl) (by first | (rw [if_pos hc79]; exact ⟨rfl, rfl, rfl, rfl⟩) | (rw [if_neg hc79, au_self]; exact ⟨rfl, rfl, rfl, rfl⟩))
  · skip
    refine MW.aload_n dX6_place_82 rfl ?_
    refine MW.getf fX6_place_83 18 rfl rfl ?_
    refine MW.iload_n dX6_place_86 rfl ?_
    refine MW.iload_n dX6_place_87 rfl ?_
    refine MW.isj dX6_place_88 26 0 rfl rfl (show j < 8 by omega) (by decide) ?_
    refine MW.heap hw_a26 ?_
    refine MW.iload_n dX6_place_89 rfl ?_
    exact MW.ireturn dX6_place_90 rfl (rfl) (by first | (rw [if_pos hc79]; exact ⟨rfl, rfl, rfl, rfl⟩) | (rw [if_neg hc79, au_self]; exact ⟨rfl, rfl, rfl, rfl⟩))
set_option maxHeartbeats 2000000 in
theorem m_at_1 {k : Nat} (hk : i 17 = nI k) (hk8 : k ≤ 8) {p : Int32} (h1 : ¬ (0 ≤ p ∧ p < nI k)) : MC (En l D t b L xs) MX6_at 20 [.ref (q 18), .int p] (hw t q i a w) mc ms (rt (some (.int 0)) (hw t q (upd i 18 1) a w) mc ms) := by
  show MW _ _ _ 0 [some (.ref (q 18)), some (.int p)] [] _ _ _ _
  refine MW.aload_n dX6_at_0 rfl ?_
  refine MW.aload_n dX6_at_1 rfl ?_
  refine MW.iload_n dX6_at_2 rfl ?_
  refine MW.callV1 fX6_at_3 18 rfl (m_isPallet) rfl rfl rfl rfl (Nat.le_of_ble_eq_true rfl) ?_
  refine MW.if_eq 13 dX6_at_6 (by decide) (fun hc6 => ?_) (fun hc6 => absurd (bI_0.mpr (fun z => h1 (by rw [hk] at z; exact z))) hc6)
  refine MW.iconst (v := 1) dX6_at_13 (by decide) ?_
  refine MW.putf fX6_at_14 18 rfl (rfl) (rfl) rfl ?_
  refine MW.heap hw_s6_8 ?_
  refine MW.aload_n dX6_at_17 rfl ?_
  refine MW.getf fX6_at_18 18 rfl rfl ?_
  refine MW.if_eq 28 dX6_at_21 (by decide) (fun hc21 => absurd hc21 (show ¬ (1 : Int32) = 0 by decide)) (fun hc21 => ?_)
  refine MW.iconst (v := 0) dX6_at_24 (by decide) ?_
  refine MW.goto 34 dX6_at_25 (by decide) ?_
  exact MW.ireturn dX6_at_34 rfl (rfl) rt_r
set_option maxHeartbeats 2000000 in
theorem m_at_ok {k : Nat} (hk : i 17 = nI k) (hk8 : k ≤ 8) {j : Nat} (hj : j < k) : MC (En l D t b L xs) MX6_at 20 [.ref (q 18), .int (nI j)] (hw t q i a w) mc ms (rt (some (.int (a 17 j))) (hw t q (upd i 18 0) a w) mc ms) := by
  show MW _ _ _ 0 [some (.ref (q 18)), some (.int (nI j))] [] _ _ _ _
  refine MW.aload_n dX6_at_0 rfl ?_
  refine MW.aload_n dX6_at_1 rfl ?_
  refine MW.iload_n dX6_at_2 rfl ?_
  refine MW.callV1 fX6_at_3 18 rfl (m_isPallet) rfl rfl rfl rfl (Nat.le_of_ble_eq_true rfl) ?_
  refine MW.if_eq 13 dX6_at_6 (by decide) (fun hc6 => absurd hc6 (fun z => zz z ⟨nI_pos' (by omega), by rw [hk]; exact nI_lt hj (by omega)⟩)) (fun hc6 => ?_)
  refine MW.iconst (v := 0) dX6_at_9 (by decide) ?_
  refine MW.goto 14 dX6_at_10 (by decide) ?_
  refine MW.putf fX6_at_14 18 rfl (rfl) (rfl) rfl ?_
  refine MW.heap hw_s6_8 ?_
  refine MW.aload_n dX6_at_17 rfl ?_
  refine MW.getf fX6_at_18 18 rfl rfl ?_
  refine MW.if_eq 28 dX6_at_21 (by decide) (fun hc21 => ?_) (fun hc21 => absurd (show (0 : Int32) = 0 from rfl) hc21)
  refine MW.aload_n dX6_at_28 rfl ?_
  refine MW.getf fX6_at_29 18 rfl rfl ?_
  refine MW.iload_n dX6_at_32 rfl ?_
  refine MW.iaj dX6_at_33 26 0 rfl rfl (show j < 8 by omega) (by decide) ?_
  exact MW.ireturn dX6_at_34 rfl (rfl) ⟨rfl, rfl, rfl, rfl⟩
set_option maxHeartbeats 2000000 in
theorem m_change_1 {k : Nat} (hk : i 17 = nI k) (hk8 : k ≤ 8) {p s : Int32} (h1 : ¬ (0 ≤ p ∧ p < nI k)) : MC (En l D t b L xs) MX6_change 20 [.ref (q 18), .int p, .int s] (hw t q i a w) mc ms (rt (some (.int 0)) (hw t q (upd i 18 1) a w) mc ms) := by
  show MW _ _ _ 0 [some (.ref (q 18)), some (.int p), some (.int s), none] [] _ _ _ _
  refine MW.aload_n dX6_change_0 rfl ?_
  refine MW.aload_n dX6_change_1 rfl ?_
  refine MW.iload_n dX6_change_2 rfl ?_
  refine MW.callV1 fX6_change_3 18 rfl (m_isPallet) rfl rfl rfl rfl (Nat.le_of_ble_eq_true rfl) ?_
  refine MW.if_ne 13 dX6_change_6 (by decide) (fun hc6 => absurd (bI_0.mpr (fun z => h1 (by rw [hk] at z; exact z))) hc6) (fun hc6 => ?_)
  refine MW.iconst (v := 1) dX6_change_9 (by decide) ?_
  refine MW.goto 39 dX6_change_10 (by decide) ?_
  refine MW.putf fX6_change_39 18 rfl (rfl) (rfl) rfl ?_
  refine MW.heap hw_s6_8 ?_
  refine MW.aload_n dX6_change_42 rfl ?_
  refine MW.getf fX6_change_43 18 rfl rfl ?_
  refine MW.if_eq 51 dX6_change_46 (by decide) (fun hc46 => absurd hc46 (show ¬ (1 : Int32) = 0 by decide)) (fun hc46 => ?_)
  refine MW.iconst (v := 0) dX6_change_49 (by decide) ?_
  exact MW.ireturn dX6_change_50 rfl (rfl) rt_r
set_option maxHeartbeats 2000000 in
theorem m_change_2 {k : Nat} (hk : i 17 = nI k) (hk8 : k ≤ 8) {j : Nat} (hj : j < k) {s : Int32} (h2 : ¬ (1 ≤ s ∧ s ≤ 9)) : MC (En l D t b L xs) MX6_change 20 [.ref (q 18), .int (nI j), .int s] (hw t q i a w) mc ms (rt (some (.int 0)) (hw t q (upd i 18 2) a w) mc ms) := by
  show MW _ _ _ 0 [some (.ref (q 18)), some (.int (nI j)), some (.int s), none] [] _ _ _ _
  refine MW.aload_n dX6_change_0 rfl ?_
  refine MW.aload_n dX6_change_1 rfl ?_
  refine MW.iload_n dX6_change_2 rfl ?_
  refine MW.callV1 fX6_change_3 18 rfl (m_isPallet) rfl rfl rfl rfl (Nat.le_of_ble_eq_true rfl) ?_
  refine MW.if_ne 13 dX6_change_6 (by decide) (fun hc6 => ?_) (fun hc6 => absurd hc6 (fun z => zz z ⟨nI_pos' (by omega), by rw [hk]; exact nI_lt hj (by omega)⟩))
  refine MW.iload_n dX6_change_13 rfl ?_
  refine MW.iconst (v := 1) dX6_change_14 (by decide) ?_
  refine MW.bipush (v := 9) dX6_change_15 (by decide) ?_
  refine MW.callS1 fX6_change_17 (c_within) rfl rfl rfl rfl (Nat.le_of_ble_eq_true rfl) ?_
  refine MW.if_ne 27 dX6_change_20 (by decide) (fun hc20 => absurd (bI_0.mpr h2) hc20) (fun hc20 => ?_)
  refine MW.iconst (v := 2) dX6_change_23 (by decide) ?_
  refine MW.goto 39 dX6_change_24 (by decide) ?_
  refine MW.putf fX6_change_39 18 rfl (rfl) (rfl) rfl ?_
  refine MW.heap hw_s6_8 ?_
  refine MW.aload_n dX6_change_42 rfl ?_
  refine MW.getf fX6_change_43 18 rfl rfl ?_
  refine MW.if_eq 51 dX6_change_46 (by decide) (fun hc46 => absurd hc46 (show ¬ (2 : Int32) = 0 by decide)) (fun hc46 => ?_)
  refine MW.iconst (v := 0) dX6_change_49 (by decide) ?_
  exact MW.ireturn dX6_change_50 rfl (rfl) rt_r
set_option maxHeartbeats 2000000 in
theorem m_change_3 {k : Nat} (hk : i 17 = nI k) (hk8 : k ≤ 8) {j : Nat} (hj : j < k) {s : Int32} (h2 : 1 ≤ s ∧ s ≤ 9) (h3 : ¬ i 20 = 0) : MC (En l D t b L xs) MX6_change 20 [.ref (q 18), .int (nI j), .int s] (hw t q i a w) mc ms (rt (some (.int 0)) (hw t q (upd i 18 3) a w) mc ms) := by
  show MW _ _ _ 0 [some (.ref (q 18)), some (.int (nI j)), some (.int s), none] [] _ _ _ _
  refine MW.aload_n dX6_change_0 rfl ?_
  refine MW.aload_n dX6_change_1 rfl ?_
  refine MW.iload_n dX6_change_2 rfl ?_
  refine MW.callV1 fX6_change_3 18 rfl (m_isPallet) rfl rfl rfl rfl (Nat.le_of_ble_eq_true rfl) ?_
  refine MW.if_ne 13 dX6_change_6 (by decide) (fun hc6 => ?_) (fun hc6 => absurd hc6 (fun z => zz z ⟨nI_pos' (by omega), by rw [hk]; exact nI_lt hj (by omega)⟩))
  refine MW.iload_n dX6_change_13 rfl ?_
  refine MW.iconst (v := 1) dX6_change_14 (by decide) ?_
  refine MW.bipush (v := 9) dX6_change_15 (by decide) ?_
  refine MW.callS1 fX6_change_17 (c_within) rfl rfl rfl rfl (Nat.le_of_ble_eq_true rfl) ?_
  refine MW.if_ne 27 dX6_change_20 (by decide) (fun hc20 => ?_) (fun hc20 => absurd hc20 (fun z => zz z h2))
  refine MW.aload_n dX6_change_27 rfl ?_
  refine MW.getf fX6_change_28 18 rfl rfl ?_
  refine MW.if_eq 38 dX6_change_31 (by decide) (fun hc31 => absurd hc31 h3) (fun hc31 => ?_)
  refine MW.iconst (v := 3) dX6_change_34 (by decide) ?_
  refine MW.goto 39 dX6_change_35 (by decide) ?_
  refine MW.putf fX6_change_39 18 rfl (rfl) (rfl) rfl ?_
  refine MW.heap hw_s6_8 ?_
  refine MW.aload_n dX6_change_42 rfl ?_
  refine MW.getf fX6_change_43 18 rfl rfl ?_
  refine MW.if_eq 51 dX6_change_46 (by decide) (fun hc46 => absurd hc46 (show ¬ (3 : Int32) = 0 by decide)) (fun hc46 => ?_)
  refine MW.iconst (v := 0) dX6_change_49 (by decide) ?_
  exact MW.ireturn dX6_change_50 rfl (rfl) rt_r
set_option maxHeartbeats 2000000 in
theorem m_change_ok {k : Nat} (hk : i 17 = nI k) (hk8 : k ≤ 8) {j : Nat} (hj : j < k) {s : Int32} (h2 : 1 ≤ s ∧ s ≤ 9) (h3 : i 20 = 0) : MC (En l D t b L xs) MX6_change 20 [.ref (q 18), .int (nI j), .int s] (hw t q i a w) mc ms (rt (some (.int (bI (¬ (¬ a 17 j = -1 ∧ ko (au a 15 (upd (a 15) j s)) k j (a 17 j) 5))))) (hw t q (upd i 18 0) (au a 15 (cS (¬ a 17 j = -1 ∧ ko (au a 15 (upd (a 15) j s)) k j (a 17 j) 5) (a 15) (upd (a 15) j s))) w) mc ms) := by
  show MW _ _ _ 0 [some (.ref (q 18)), some (.int (nI j)), some (.int s), none] [] _ _ _ _
  refine MW.aload_n dX6_change_0 rfl ?_
  refine MW.aload_n dX6_change_1 rfl ?_
  refine MW.iload_n dX6_change_2 rfl ?_
  refine MW.callV1 fX6_change_3 18 rfl (m_isPallet) rfl rfl rfl rfl (Nat.le_of_ble_eq_true rfl) ?_
  refine MW.if_ne 13 dX6_change_6 (by decide) (fun hc6 => ?_) (fun hc6 => absurd hc6 (fun z => zz z ⟨nI_pos' (by omega), by rw [hk]; exact nI_lt hj (by omega)⟩))
  refine MW.iload_n dX6_change_13 rfl ?_
  refine MW.iconst (v := 1) dX6_change_14 (by decide) ?_
  refine MW.bipush (v := 9) dX6_change_15 (by decide) ?_
  refine MW.callS1 fX6_change_17 (c_within) rfl rfl rfl rfl (Nat.le_of_ble_eq_true rfl) ?_
  refine MW.if_ne 27 dX6_change_20 (by decide) (fun hc20 => ?_) (fun hc20 => absurd hc20 (fun z => zz z h2))
  refine MW.aload_n dX6_change_27 rfl ?_
  refine MW.getf fX6_change_28 18 rfl rfl ?_
  refine MW.if_eq 38 dX6_change_31 (by decide) (fun hc31 => ?_) (fun hc31 => absurd (show i 20 = 0 from h3) hc31)
  refine MW.iconst (v := 0) dX6_change_38 (by decide) ?_
  refine MW.putf fX6_change_39 18 rfl (rfl) (rfl) rfl ?_
  refine MW.heap hw_s6_8 ?_
  refine MW.aload_n dX6_change_42 rfl ?_
  refine MW.getf fX6_change_43 18 rfl rfl ?_
  refine MW.if_eq 51 dX6_change_46 (by decide) (fun hc46 => ?_) (fun hc46 => absurd (show (0 : Int32) = 0 from rfl) hc46)
  refine MW.aload_n dX6_change_51 rfl ?_
  refine MW.getf fX6_change_52 18 rfl rfl ?_
  refine MW.iload_n dX6_change_55 rfl ?_
  refine MW.iaj dX6_change_56 24 0 rfl rfl (show j < 8 by omega) (by decide) ?_
  refine MW.istore_n dX6_change_57 rfl rfl ?_
  refine MW.aload_n dX6_change_58 rfl ?_
  refine MW.getf fX6_change_59 18 rfl rfl ?_
  refine MW.iload_n dX6_change_62 rfl ?_
  refine MW.iload_n dX6_change_63 rfl ?_
  refine MW.isj dX6_change_64 24 0 rfl rfl (show j < 8 by omega) (by decide) ?_
  refine MW.heap hw_a24 ?_
  refine MW.aload_n dX6_change_65 rfl ?_
  refine MW.getf fX6_change_66 18 rfl rfl ?_
  refine MW.iload_n dX6_change_69 rfl ?_
  refine MW.iaj dX6_change_70 26 0 rfl rfl (show j < 8 by omega) (by decide) ?_
  refine MW.iconst (v := -1) dX6_change_71 (by decide) ?_
  refine MW.icmp_eq 99 dX6_change_72 (by decide) (fun hc72 => ?_) (fun hc72 => ?_)
  · skip
    refine MW.iconst (v := 1) dX6_change_99 (by decide) ?_
    exact MW.ireturn dX6_change_100 rfl (rfl) (by first | (rw [cS_f (fun z : (¬ a 17 j = -1 ∧ ko (au a 15 (upd (a 15) j s)) k j (a 17 j) 5) => z.1 hc72)]; exact rtb_t (fun z => z.1 hc72)) | (rw [cS_f (fun z : (¬ a 17 j = -1 ∧ ko (au a 15 (upd (a 15) j s)) k j (a 17 j) 5) => zz hc87 z.2)]; exact rtb_t (fun z => zz hc87 z.2)))
  · skip
    refine MW.aload_n dX6_change_75 rfl ?_
    refine MW.iconst (v := 5) dX6_change_76 (by decide) ?_
    refine MW.iload_n dX6_change_77 rfl ?_
    refine MW.aload_n dX6_change_78 rfl ?_
    refine MW.getf fX6_change_79 18 rfl rfl ?_
    refine MW.iload_n dX6_change_82 rfl ?_
    refine MW.iaj dX6_change_83 26 0 rfl rfl (show j < 8 by omega) (by decide) ?_
    refine MW.callV1 fX6_change_84 18 rfl (m_ko5 (i := (upd i 18 0)) (a := (au a 15 (upd (a 15) j s))) hk hk8 (show j < 8 by omega)) rfl rfl rfl rfl (Nat.le_of_ble_eq_true rfl) ?_
    refine MW.if_eq 99 dX6_change_87 (by decide) (fun hc87 => ?_) (fun hc87 => ?_)
    · skip
      refine MW.iconst (v := 1) dX6_change_99 (by decide) ?_
      exact MW.ireturn dX6_change_100 rfl (rfl) (by first | (rw [cS_f (fun z : (¬ a 17 j = -1 ∧ ko (au a 15 (upd (a 15) j s)) k j (a 17 j) 5) => z.1 hc72)]; exact rtb_t (fun z => z.1 hc72)) | (rw [cS_f (fun z : (¬ a 17 j = -1 ∧ ko (au a 15 (upd (a 15) j s)) k j (a 17 j) 5) => zz hc87 z.2)]; exact rtb_t (fun z => zz hc87 z.2)))
    · skip
      refine MW.aload_n dX6_change_90 rfl ?_
      refine MW.getf fX6_change_91 18 rfl rfl ?_
      refine MW.iload_n dX6_change_94 rfl ?_
      refine MW.iload_n dX6_change_95 rfl ?_
      refine MW.isj dX6_change_96 24 0 rfl rfl (show j < 8 by omega) (by decide) ?_
      refine MW.heap hw_a24 ?_
      refine MW.iconst (v := 0) dX6_change_97 (by decide) ?_
      exact MW.ireturn dX6_change_98 rfl (rfl) (by rw [cS_t (show (¬ a 17 j = -1 ∧ ko (au a 15 (upd (a 15) j s)) k j (a 17 j) 5) from ⟨hc72, nz hc87⟩)]; exact ⟨by rw [bI_f (fun z => z (show (¬ a 17 j = -1 ∧ ko (au a 15 (upd (a 15) j s)) k j (a 17 j) 5) from ⟨hc72, nz hc87⟩))], by rw [au_au, au_at, upd_upd, upd_self], rfl, rfl⟩)
set_option maxHeartbeats 2000000 in
theorem m_doors_1 {o : Int32} (h1 : ¬ o = 0) (h2 : ¬ i 21 = 0) : MC (En l D t b L xs) MX6_doors 20 [.ref (q 18), .int o] (hw t q i a w) mc ms (rt (some (.int 0)) (hw t q (upd i 18 1) a w) mc ms) := by
  show MW _ _ _ 0 [some (.ref (q 18)), some (.int o), none] [] _ _ _ _
  refine MW.aload_n dX6_doors_0 rfl ?_
  refine MW.iload_n dX6_doors_1 rfl ?_
  refine MW.if_eq 16 dX6_doors_2 (by decide) (fun hc2 => absurd hc2 h1) (fun hc2 => ?_)
  refine MW.aload_n dX6_doors_5 rfl ?_
  refine MW.getf fX6_doors_6 18 rfl rfl ?_
  refine MW.if_eq 16 dX6_doors_9 (by decide) (fun hc9 => absurd hc9 h2) (fun hc9 => ?_)
  refine MW.iconst (v := 1) dX6_doors_12 (by decide) ?_
  refine MW.goto 17 dX6_doors_13 (by decide) ?_
  refine MW.putf fX6_doors_17 18 rfl (rfl) (rfl) rfl ?_
  refine MW.heap hw_s6_8 ?_
  refine MW.aload_n dX6_doors_20 rfl ?_
  refine MW.getf fX6_doors_21 18 rfl rfl ?_
  refine MW.if_eq 29 dX6_doors_24 (by decide) (fun hc24 => absurd hc24 (show ¬ (1 : Int32) = 0 by decide)) (fun hc24 => ?_)
  refine MW.iconst (v := 0) dX6_doors_27 (by decide) ?_
  exact MW.ireturn dX6_doors_28 rfl (rfl) rt_r
set_option maxHeartbeats 2000000 in
theorem m_doors_ok {o : Int32} (ho : o = 0 ∨ o = 1) (hb : i 20 = 0 ∨ i 20 = 1) (h1 : o = 0 ∨ i 21 = 0) : MC (En l D t b L xs) MX6_doors 20 [.ref (q 18), .int o] (hw t q i a w) mc ms (rt (some (.int (i 20))) (hw t q (upd (upd i 18 0) 20 o) a w) mc ms) := by
  show MW _ _ _ 0 [some (.ref (q 18)), some (.int o), none] [] _ _ _ _
  refine MW.aload_n dX6_doors_0 rfl ?_
  refine MW.iload_n dX6_doors_1 rfl ?_
  refine MW.if_eq 16 dX6_doors_2 (by decide) (fun hc2 => ?_) (fun hc2 => ?_)
  · skip
    refine MW.iconst (v := 0) dX6_doors_16 (by decide) ?_
    refine MW.putf fX6_doors_17 18 rfl (rfl) (rfl) rfl ?_
    refine MW.heap hw_s6_8 ?_
    refine MW.aload_n dX6_doors_20 rfl ?_
    refine MW.getf fX6_doors_21 18 rfl rfl ?_
    refine MW.if_eq 29 dX6_doors_24 (by decide) (fun hc24 => ?_) (fun hc24 => absurd (show (0 : Int32) = 0 from rfl) hc24)
    refine MW.aload_n dX6_doors_29 rfl ?_
    refine MW.getf fX6_doors_30 18 rfl rfl ?_
    refine MW.istore_n dX6_doors_33 rfl rfl ?_
    refine MW.aload_n dX6_doors_34 rfl ?_
    refine MW.iload_n dX6_doors_35 rfl ?_
    refine MW.putf fX6_doors_36 18 rfl (nar_b ho) (fit_b ho) rfl ?_
    refine MW.heap hw_s6_17 ?_
    refine MW.iload_n dX6_doors_39 rfl ?_
    exact MW.ireturn dX6_doors_40 rfl (nar_b (show upd i 18 0 20 = 0 ∨ upd i 18 0 20 = 1 from hb)) ⟨rfl, rfl, rfl, rfl⟩
  · skip
    refine MW.aload_n dX6_doors_5 rfl ?_
    refine MW.getf fX6_doors_6 18 rfl rfl ?_
    refine MW.if_eq 16 dX6_doors_9 (by decide) (fun hc9 => ?_) (fun hc9 => absurd (show i 21 = 0 from h1.resolve_left hc2) hc9)
    refine MW.iconst (v := 0) dX6_doors_16 (by decide) ?_
    refine MW.putf fX6_doors_17 18 rfl (rfl) (rfl) rfl ?_
    refine MW.heap hw_s6_8 ?_
    refine MW.aload_n dX6_doors_20 rfl ?_
    refine MW.getf fX6_doors_21 18 rfl rfl ?_
    refine MW.if_eq 29 dX6_doors_24 (by decide) (fun hc24 => ?_) (fun hc24 => absurd (show (0 : Int32) = 0 from rfl) hc24)
    refine MW.aload_n dX6_doors_29 rfl ?_
    refine MW.getf fX6_doors_30 18 rfl rfl ?_
    refine MW.istore_n dX6_doors_33 rfl rfl ?_
    refine MW.aload_n dX6_doors_34 rfl ?_
    refine MW.iload_n dX6_doors_35 rfl ?_
    refine MW.putf fX6_doors_36 18 rfl (nar_b ho) (fit_b ho) rfl ?_
    refine MW.heap hw_s6_17 ?_
    refine MW.iload_n dX6_doors_39 rfl ?_
    exact MW.ireturn dX6_doors_40 rfl (nar_b (show upd i 18 0 20 = 0 ∨ upd i 18 0 20 = 1 from hb)) ⟨rfl, rfl, rfl, rfl⟩
set_option maxHeartbeats 2000000 in
theorem m_broken_1 (h1 : i 21 = 0) : MC (En l D t b L xs) MX6_broken 20 [.ref (q 18)] (hw t q i a w) mc ms (rt (some (.int 0)) (hw t q (upd (upd i 18 1) 21 0) a w) mc ms) := by
  show MW _ _ _ 0 [some (.ref (q 18)), none] [] _ _ _ _
  refine MW.aload_n dX6_broken_0 rfl ?_
  refine MW.aload_n dX6_broken_1 rfl ?_
  refine MW.getf fX6_broken_2 18 rfl rfl ?_
  refine MW.if_ne 12 dX6_broken_5 (by decide) (fun hc5 => absurd h1 hc5) (fun hc5 => ?_)
  refine MW.iconst (v := 1) dX6_broken_8 (by decide) ?_
  refine MW.goto 13 dX6_broken_9 (by decide) ?_
  refine MW.putf fX6_broken_13 18 rfl (rfl) (rfl) rfl ?_
  refine MW.heap hw_s6_8 ?_
  refine MW.aload_n dX6_broken_16 rfl ?_
  refine MW.getf fX6_broken_17 18 rfl rfl ?_
  refine MW.istore_n dX6_broken_20 rfl rfl ?_
  refine MW.aload_n dX6_broken_21 rfl ?_
  refine MW.iconst (v := 0) dX6_broken_22 (by decide) ?_
  refine MW.putf fX6_broken_23 18 rfl (rfl) (rfl) rfl ?_
  refine MW.heap hw_s6_18 ?_
  refine MW.iload_n dX6_broken_26 rfl ?_
  exact MW.ireturn dX6_broken_27 rfl (rfl) ⟨by show (Sum.inl (some (Value.int (i 21))) : mi_O) = _; rw [h1], rfl, rfl, rfl⟩
set_option maxHeartbeats 2000000 in
theorem m_broken_ok (h1 : ¬ i 21 = 0) : MC (En l D t b L xs) MX6_broken 20 [.ref (q 18)] (hw t q i a w) mc ms (rt (some (.int (i 21))) (hw t q (upd (upd i 18 0) 21 0) a w) mc ms) := by
  show MW _ _ _ 0 [some (.ref (q 18)), none] [] _ _ _ _
  refine MW.aload_n dX6_broken_0 rfl ?_
  refine MW.aload_n dX6_broken_1 rfl ?_
  refine MW.getf fX6_broken_2 18 rfl rfl ?_
  refine MW.if_ne 12 dX6_broken_5 (by decide) (fun hc5 => ?_) (fun hc5 => absurd hc5 h1)
  refine MW.iconst (v := 0) dX6_broken_12 (by decide) ?_
  refine MW.putf fX6_broken_13 18 rfl (rfl) (rfl) rfl ?_
  refine MW.heap hw_s6_8 ?_
  refine MW.aload_n dX6_broken_16 rfl ?_
  refine MW.getf fX6_broken_17 18 rfl rfl ?_
  refine MW.istore_n dX6_broken_20 rfl rfl ?_
  refine MW.aload_n dX6_broken_21 rfl ?_
  refine MW.iconst (v := 0) dX6_broken_22 (by decide) ?_
  refine MW.putf fX6_broken_23 18 rfl (rfl) (rfl) rfl ?_
  refine MW.heap hw_s6_18 ?_
  refine MW.iload_n dX6_broken_26 rfl ?_
  exact MW.ireturn dX6_broken_27 rfl (rfl) ⟨rfl, rfl, rfl, rfl⟩
set_option maxHeartbeats 2000000 in
theorem m_manifest_1 {x : Int32} (h1 : ¬ (0 ≤ x ∧ x ≤ 10000)) : MC (En l D t b L xs) MX6_manifest 20 [.ref (q 18), .int x] (hw t q i a w) mc ms (rt (some (.int 0)) (hw t q (upd i 18 1) a w) mc ms) := by
  show MW _ _ _ 0 [some (.ref (q 18)), some (.int x)] [] _ _ _ _
  refine MW.aload_n dX6_manifest_0 rfl ?_
  refine MW.iload_n dX6_manifest_1 rfl ?_
  refine MW.iconst (v := 0) dX6_manifest_2 (by decide) ?_
  refine MW.sipush (v := 10000) dX6_manifest_3 (by decide) ?_
  refine MW.callS1 fX6_manifest_6 (c_within) rfl rfl rfl rfl (Nat.le_of_ble_eq_true rfl) ?_
  refine MW.if_eq 16 dX6_manifest_9 (by decide) (fun hc9 => ?_) (fun hc9 => absurd (bI_0.mpr h1) hc9)
  refine MW.iconst (v := 1) dX6_manifest_16 (by decide) ?_
  refine MW.putf fX6_manifest_17 18 rfl (rfl) (rfl) rfl ?_
  refine MW.heap hw_s6_8 ?_
  refine MW.aload_n dX6_manifest_20 rfl ?_
  refine MW.getf fX6_manifest_21 18 rfl rfl ?_
  refine MW.if_eq 31 dX6_manifest_24 (by decide) (fun hc24 => absurd hc24 (show ¬ (1 : Int32) = 0 by decide)) (fun hc24 => ?_)
  refine MW.iconst (v := 0) dX6_manifest_27 (by decide) ?_
  refine MW.goto 37 dX6_manifest_28 (by decide) ?_
  exact MW.ireturn dX6_manifest_37 rfl (rfl) rt_r
set_option maxHeartbeats 2000000 in
theorem m_manifest_ok {k : Nat} (hk : i 17 = nI k) (hk8 : k ≤ 8) {x : Int32} (h1 : 0 ≤ x ∧ x ≤ 10000) : MC (En l D t b L xs) MX6_manifest 20 [.ref (q 18), .int x] (hw t q i a w) mc ms (rt (some (.int (x - wtn (a 12) (a 17) k))) (hw t q (upd i 18 0) a w) mc ms) := by
  show MW _ _ _ 0 [some (.ref (q 18)), some (.int x)] [] _ _ _ _
  refine MW.aload_n dX6_manifest_0 rfl ?_
  refine MW.iload_n dX6_manifest_1 rfl ?_
  refine MW.iconst (v := 0) dX6_manifest_2 (by decide) ?_
  refine MW.sipush (v := 10000) dX6_manifest_3 (by decide) ?_
  refine MW.callS1 fX6_manifest_6 (c_within) rfl rfl rfl rfl (Nat.le_of_ble_eq_true rfl) ?_
  refine MW.if_eq 16 dX6_manifest_9 (by decide) (fun hc9 => absurd hc9 (fun z => zz z h1)) (fun hc9 => ?_)
  refine MW.iconst (v := 0) dX6_manifest_12 (by decide) ?_
  refine MW.goto 17 dX6_manifest_13 (by decide) ?_
  refine MW.putf fX6_manifest_17 18 rfl (rfl) (rfl) rfl ?_
  refine MW.heap hw_s6_8 ?_
  refine MW.aload_n dX6_manifest_20 rfl ?_
  refine MW.getf fX6_manifest_21 18 rfl rfl ?_
  refine MW.if_eq 31 dX6_manifest_24 (by decide) (fun hc24 => ?_) (fun hc24 => absurd (show (0 : Int32) = 0 from rfl) hc24)
  refine MW.iload_n dX6_manifest_31 rfl ?_
  refine MW.aload_n dX6_manifest_32 rfl ?_
  refine MW.callV1 fX6_manifest_33 18 rfl (m_standingWeight (i := (upd i 18 0)) hk hk8) rfl rfl rfl rfl (Nat.le_of_ble_eq_true rfl) ?_
  refine MW.isub dX6_manifest_36 ?_
  exact MW.ireturn dX6_manifest_37 rfl (rfl) ⟨rfl, rfl, rfl, rfl⟩
set_option maxHeartbeats 2000000 in
theorem m_count_0 {k : Nat} (hk : i 17 = nI k) (hk8 : k ≤ 8) : MC (En l D t b L xs) MX6_count 20 [.ref (q 18), .int 0] (hw t q i a w) mc ms (rt (some (.int (i 12))) (hw t q (upd i 18 0) a w) mc ms) := by
  show MW _ _ _ 0 [some (.ref (q 18)), some (.int 0)] [] _ _ _ _
  refine MW.aload_n dX6_count_0 rfl ?_
  refine MW.iconst (v := 0) dX6_count_1 (by decide) ?_
  refine MW.putf fX6_count_2 18 rfl (rfl) (rfl) rfl ?_
  refine MW.heap hw_s6_8 ?_
  refine MW.iload_n dX6_count_5 rfl ?_
  refine MW.tableIn 44 dX6_count_6 (by decide) (by decide) rfl (by decide) ?_
  refine MW.aload_n dX6_count_44 rfl ?_
  refine MW.getf fX6_count_45 18 rfl rfl ?_
  exact MW.ireturn dX6_count_48 rfl (rfl) (by first | exact ⟨rfl, rfl, rfl, rfl⟩ | exact rtb_t (show ¬ i 20 = 0 by assumption) | exact rtb_f (fun z => z (show i 20 = 0 by assumption)))
set_option maxHeartbeats 2000000 in
theorem m_count_1 {k : Nat} (hk : i 17 = nI k) (hk8 : k ≤ 8) : MC (En l D t b L xs) MX6_count 20 [.ref (q 18), .int 1] (hw t q i a w) mc ms (rt (some (.int (i 17))) (hw t q (upd i 18 0) a w) mc ms) := by
  show MW _ _ _ 0 [some (.ref (q 18)), some (.int 1)] [] _ _ _ _
  refine MW.aload_n dX6_count_0 rfl ?_
  refine MW.iconst (v := 0) dX6_count_1 (by decide) ?_
  refine MW.putf fX6_count_2 18 rfl (rfl) (rfl) rfl ?_
  refine MW.heap hw_s6_8 ?_
  refine MW.iload_n dX6_count_5 rfl ?_
  refine MW.tableIn 49 dX6_count_6 (by decide) (by decide) rfl (by decide) ?_
  refine MW.aload_n dX6_count_49 rfl ?_
  refine MW.getf fX6_count_50 18 rfl rfl ?_
  exact MW.ireturn dX6_count_53 rfl (rfl) (by first | exact ⟨rfl, rfl, rfl, rfl⟩ | exact rtb_t (show ¬ i 20 = 0 by assumption) | exact rtb_f (fun z => z (show i 20 = 0 by assumption)))
set_option maxHeartbeats 2000000 in
theorem m_count_2 {k : Nat} (hk : i 17 = nI k) (hk8 : k ≤ 8) : MC (En l D t b L xs) MX6_count 20 [.ref (q 18), .int 2] (hw t q i a w) mc ms (rt (some (.int (stn (a 17) k))) (hw t q (upd i 18 0) a w) mc ms) := by
  show MW _ _ _ 0 [some (.ref (q 18)), some (.int 2)] [] _ _ _ _
  refine MW.aload_n dX6_count_0 rfl ?_
  refine MW.iconst (v := 0) dX6_count_1 (by decide) ?_
  refine MW.putf fX6_count_2 18 rfl (rfl) (rfl) rfl ?_
  refine MW.heap hw_s6_8 ?_
  refine MW.iload_n dX6_count_5 rfl ?_
  refine MW.tableIn 54 dX6_count_6 (by decide) (by decide) rfl (by decide) ?_
  refine MW.aload_n dX6_count_54 rfl ?_
  refine MW.callV1 fX6_count_55 18 rfl (m_standing (i := (upd i 18 0)) hk hk8) rfl rfl rfl rfl (Nat.le_of_ble_eq_true rfl) ?_
  exact MW.ireturn dX6_count_58 rfl (rfl) (by first | exact ⟨rfl, rfl, rfl, rfl⟩ | exact rtb_t (show ¬ i 20 = 0 by assumption) | exact rtb_f (fun z => z (show i 20 = 0 by assumption)))
set_option maxHeartbeats 2000000 in
theorem m_count_3 {k : Nat} (hk : i 17 = nI k) (hk8 : k ≤ 8) : MC (En l D t b L xs) MX6_count 20 [.ref (q 18), .int 3] (hw t q i a w) mc ms (rt (some (.int (bI (¬ i 20 = 0)))) (hw t q (upd i 18 0) a w) mc ms) := by
  show MW _ _ _ 0 [some (.ref (q 18)), some (.int 3)] [] _ _ _ _
  refine MW.aload_n dX6_count_0 rfl ?_
  refine MW.iconst (v := 0) dX6_count_1 (by decide) ?_
  refine MW.putf fX6_count_2 18 rfl (rfl) (rfl) rfl ?_
  refine MW.heap hw_s6_8 ?_
  refine MW.iload_n dX6_count_5 rfl ?_
  refine MW.tableIn 59 dX6_count_6 (by decide) (by decide) rfl (by decide) ?_
  refine MW.aload_n dX6_count_59 rfl ?_
  refine MW.getf fX6_count_60 18 rfl rfl ?_
  refine MW.if_eq 70 dX6_count_63 (by decide) (fun hc63 => ?_) (fun hc63 => ?_)
  · skip
    refine MW.iconst (v := 0) dX6_count_70 (by decide) ?_
    exact MW.ireturn dX6_count_71 rfl (rfl) (by first | exact ⟨rfl, rfl, rfl, rfl⟩ | exact rtb_t (show ¬ i 20 = 0 by assumption) | exact rtb_f (fun z => z (show i 20 = 0 by assumption)))
  · skip
    refine MW.iconst (v := 1) dX6_count_66 (by decide) ?_
    refine MW.goto 71 dX6_count_67 (by decide) ?_
    exact MW.ireturn dX6_count_71 rfl (rfl) (by first | exact ⟨rfl, rfl, rfl, rfl⟩ | exact rtb_t (show ¬ i 20 = 0 by assumption) | exact rtb_f (fun z => z (show i 20 = 0 by assumption)))
set_option maxHeartbeats 2000000 in
theorem m_count_4 {k : Nat} (hk : i 17 = nI k) (hk8 : k ≤ 8) : MC (En l D t b L xs) MX6_count 20 [.ref (q 18), .int 4] (hw t q i a w) mc ms (rt (some (.int (i 21))) (hw t q (upd i 18 0) a w) mc ms) := by
  show MW _ _ _ 0 [some (.ref (q 18)), some (.int 4)] [] _ _ _ _
  refine MW.aload_n dX6_count_0 rfl ?_
  refine MW.iconst (v := 0) dX6_count_1 (by decide) ?_
  refine MW.putf fX6_count_2 18 rfl (rfl) (rfl) rfl ?_
  refine MW.heap hw_s6_8 ?_
  refine MW.iload_n dX6_count_5 rfl ?_
  refine MW.tableIn 72 dX6_count_6 (by decide) (by decide) rfl (by decide) ?_
  refine MW.aload_n dX6_count_72 rfl ?_
  refine MW.getf fX6_count_73 18 rfl rfl ?_
  exact MW.ireturn dX6_count_76 rfl (rfl) (by first | exact ⟨rfl, rfl, rfl, rfl⟩ | exact rtb_t (show ¬ i 20 = 0 by assumption) | exact rtb_f (fun z => z (show i 20 = 0 by assumption)))
set_option maxHeartbeats 2000000 in
theorem m_count_5 {k : Nat} (hk : i 17 = nI k) (hk8 : k ≤ 8) : MC (En l D t b L xs) MX6_count 20 [.ref (q 18), .int 5] (hw t q i a w) mc ms (rt (some (.int (i 22))) (hw t q (upd i 18 0) a w) mc ms) := by
  show MW _ _ _ 0 [some (.ref (q 18)), some (.int 5)] [] _ _ _ _
  refine MW.aload_n dX6_count_0 rfl ?_
  refine MW.iconst (v := 0) dX6_count_1 (by decide) ?_
  refine MW.putf fX6_count_2 18 rfl (rfl) (rfl) rfl ?_
  refine MW.heap hw_s6_8 ?_
  refine MW.iload_n dX6_count_5 rfl ?_
  refine MW.tableIn 77 dX6_count_6 (by decide) (by decide) rfl (by decide) ?_
  refine MW.aload_n dX6_count_77 rfl ?_
  refine MW.getf fX6_count_78 18 rfl rfl ?_
  exact MW.ireturn dX6_count_81 rfl (rfl) (by first | exact ⟨rfl, rfl, rfl, rfl⟩ | exact rtb_t (show ¬ i 20 = 0 by assumption) | exact rtb_f (fun z => z (show i 20 = 0 by assumption)))
set_option maxHeartbeats 2000000 in
theorem m_count_x {x : Int32} (h1 : x.toInt < 0 ∨ 5 < x.toInt) : MC (En l D t b L xs) MX6_count 20 [.ref (q 18), .int x] (hw t q i a w) mc ms (rt (some (.int (-1))) (hw t q (upd i 18 0) a w) mc ms) := by
  show MW _ _ _ 0 [some (.ref (q 18)), some (.int x)] [] _ _ _ _
  refine MW.aload_n dX6_count_0 rfl ?_
  refine MW.iconst (v := 0) dX6_count_1 (by decide) ?_
  refine MW.putf fX6_count_2 18 rfl (rfl) (rfl) rfl ?_
  refine MW.heap hw_s6_8 ?_
  refine MW.iload_n dX6_count_5 rfl ?_
  refine MW.tableOut 82 dX6_count_6 h1 (by decide) ?_
  refine MW.iconst (v := -1) dX6_count_82 (by decide) ?_
  exact MW.ireturn dX6_count_83 rfl (rfl) rt_r
end Model5
