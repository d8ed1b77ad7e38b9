/-- the reference: the pallet j has a cell high and cold enough -/
def fsM (a : Nat → Nat → Int32) (k n j : Nat) : Prop := ∃ m, m < n ∧ ¬ ko a k j (nI m) 2 ∧ ¬ ko a k j (nI m) 3
/-- the reference: the things 1 to u leave the pallet j a cell -/
def lfP (i : Nat → Int32) (a : Nat → Nat → Int32) (k j u m : Nat) : Prop := ∀ v, 1 ≤ v → v ≤ u → ilP i a k j m v
def leP (i : Nat → Int32) (a : Nat → Nat → Int32) (k n j u : Nat) : Prop := ∃ m, m < n ∧ lfP i a k j u m
theorem ex_s {p : Nat → Prop} {c : Nat} : (∃ m, m < c + 1 ∧ p m) ↔ (∃ m, m < c ∧ p m) ∨ p c := by
  constructor
  · rintro ⟨m, h1, h2⟩
    rcases Nat.eq_or_lt_of_le (Nat.lt_succ_iff.mp h1) with rfl | h3
    · exact Or.inr h2
    · exact Or.inl ⟨m, h3, h2⟩
  · rintro (⟨m, h1, h2⟩ | h)
    · exact ⟨m, by omega, h2⟩
    · exact ⟨c, by omega, h⟩
section Model6
variable {l : Launch} {D : va_G} {t : ty4} {b L : Nat} {xs : Nat → Int32} {q : Nat → Nat} {i : Nat → Int32} {a : Nat → Nat → Int32} {w : Int64} {d mc ms : Nat}
set_option maxHeartbeats 2000000 in
theorem lb_22 {k : Nat} (hk : i 17 = nI k) (hk8 : k ≤ 8) {n : Nat} (hn : i 12 = nI n) (hn12 : n ≤ 12) {j : Nat} (hj : j < 8) {x1 : Int32} {Q : mi_O → va_W → Nat → Nat → Prop} (hQ : MW (En l D t b L xs) MX6_bound (d + 1) 61 [some (.ref (q 18)), some (.int x1), some (.int (nI j)), some (.int (bI (fsM a k n j))), some (.int (nI n))] [] (hw t q i a w) mc ms Q) : ∀ (r c : Nat), c + r = n → MW (En l D t b L xs) MX6_bound (d + 1) 22 [some (.ref (q 18)), some (.int x1), some (.int (nI j)), some (.int (bI (∃ m, m < c ∧ ¬ ko a k j (nI m) 2 ∧ ¬ ko a k j (nI m) 3))), some (.int (nI c))] [] (hw t q i a w) mc ms Q := by
  intro r
  induction r with
  | zero =>
    intro c hr
    obtain rfl : c = n := by omega
    refine MW.iload dX6_bound_22 rfl ?_
    refine MW.aload_n dX6_bound_24 rfl ?_
    refine MW.getf fX6_bound_25 18 rfl rfl ?_
    refine MW.icmp_ge 61 dX6_bound_28 (by decide) (fun hc28 => ?_) (fun hc28 => absurd (show i 12 ≤ nI c by rw [hn]; exact nI_le (by omega) (by omega)) hc28)
    exact hQ
  | succ r ih =>
    intro c hr
    have hm : c < 12 := by omega
    refine MW.iload dX6_bound_22 rfl ?_
    refine MW.aload_n dX6_bound_24 rfl ?_
    refine MW.getf fX6_bound_25 18 rfl rfl ?_
    refine MW.icmp_ge 61 dX6_bound_28 (by decide) (fun hc28 => absurd hc28 (show ¬ i 12 ≤ nI c by rw [hn]; exact nI_ge (by omega) (by omega))) (fun hc28 => ?_)
    refine MW.aload_n dX6_bound_31 rfl ?_
    refine MW.iconst (v := 2) dX6_bound_32 (by decide) ?_
    refine MW.iload_n dX6_bound_33 rfl ?_
    refine MW.iload dX6_bound_34 rfl ?_
    refine MW.callV1 fX6_bound_36 18 rfl (m_ko2 (k := k) hj hm) rfl rfl rfl rfl (Nat.le_of_ble_eq_true rfl) ?_
    refine MW.if_ne 55 dX6_bound_39 (by decide) (fun hc39 => ?_) (fun hc39 => ?_)
    · skip
      refine MW.iincj dX6_bound_55 rfl rfl rfl ?_
      refine MW.goto 22 dX6_bound_58 (by decide) ?_
      refine MW.locs (lv' := [some (.ref (q 18)), some (.int x1), some (.int (nI j)), some (.int (bI (∃ m, m < c + 1 ∧ ¬ ko a k j (nI m) 2 ∧ ¬ ko a k j (nI m) 3))), some (.int (nI (c + 1)))]) ?_ (ih (c + 1) (by omega))
      first
        | rw [bI_t (ex_s.mpr (Or.inr ⟨zz hc39, zz hc50⟩))]; rfl
        | rw [bI_c (ex_s (p := (fun m => ¬ ko a k j (nI m) 2 ∧ ¬ ko a k j (nI m) 3)) (c := c)), bI_c (or_iff_left (fun z => by first | exact z.1 (nz hc39) | exact z.2 (nz hc50)))]; rfl
    · skip
      refine MW.aload_n dX6_bound_42 rfl ?_
      refine MW.iconst (v := 3) dX6_bound_43 (by decide) ?_
      refine MW.iload_n dX6_bound_44 rfl ?_
      refine MW.iload dX6_bound_45 rfl ?_
      refine MW.callV1 fX6_bound_47 18 rfl (m_ko3 (k := k) hj hm) rfl rfl rfl rfl (Nat.le_of_ble_eq_true rfl) ?_
      refine MW.if_ne 55 dX6_bound_50 (by decide) (fun hc50 => ?_) (fun hc50 => ?_)
      · skip
        refine MW.iincj dX6_bound_55 rfl rfl rfl ?_
        refine MW.goto 22 dX6_bound_58 (by decide) ?_
        refine MW.locs (lv' := [some (.ref (q 18)), some (.int x1), some (.int (nI j)), some (.int (bI (∃ m, m < c + 1 ∧ ¬ ko a k j (nI m) 2 ∧ ¬ ko a k j (nI m) 3))), some (.int (nI (c + 1)))]) ?_ (ih (c + 1) (by omega))
        first
          | rw [bI_t (ex_s.mpr (Or.inr ⟨zz hc39, zz hc50⟩))]; rfl
          | rw [bI_c (ex_s (p := (fun m => ¬ ko a k j (nI m) 2 ∧ ¬ ko a k j (nI m) 3)) (c := c)), bI_c (or_iff_left (fun z => by first | exact z.1 (nz hc39) | exact z.2 (nz hc50)))]; rfl
      · skip
        refine MW.iconst (v := 1) dX6_bound_53 (by decide) ?_
        refine MW.istore_n dX6_bound_54 rfl rfl ?_
        refine MW.iincj dX6_bound_55 rfl rfl rfl ?_
        refine MW.goto 22 dX6_bound_58 (by decide) ?_
        refine MW.locs (lv' := [some (.ref (q 18)), some (.int x1), some (.int (nI j)), some (.int (bI (∃ m, m < c + 1 ∧ ¬ ko a k j (nI m) 2 ∧ ¬ ko a k j (nI m) 3))), some (.int (nI (c + 1)))]) ?_ (ih (c + 1) (by omega))
        first
          | rw [bI_t (ex_s.mpr (Or.inr ⟨zz hc39, zz hc50⟩))]; rfl
          | rw [bI_c (ex_s (p := (fun m => ¬ ko a k j (nI m) 2 ∧ ¬ ko a k j (nI m) 3)) (c := c)), bI_c (or_iff_left (fun z => by first | exact z.1 (nz hc39) | exact z.2 (nz hc50)))]; rfl
set_option maxHeartbeats 2000000 in
theorem lb_9 {k : Nat} (hk : i 17 = nI k) (hk8 : k ≤ 8) {n : Nat} (hn : i 12 = nI n) (hn12 : n ≤ 12) : ∀ (r j : Nat) (z3 z4 : Option Value), j + r = k → MW (En l D t b L xs) MX6_bound (d + 1) 9 [some (.ref (q 18)), some (.int (psn (fsM a k n) j)), some (.int (nI j)), z3, z4] [] (hw t q i a w) mc ms (rt (some (.int (mn (i 12) (psn (fsM a k n) k)))) (hw t q i a w) mc ms) := by
  intro r
  induction r with
  | zero =>
    intro j z3 z4 hr
    obtain rfl : j = k := by omega
    refine MW.iload_n dX6_bound_9 rfl ?_
    refine MW.aload_n dX6_bound_10 rfl ?_
    refine MW.getf fX6_bound_11 18 rfl rfl ?_
    refine MW.icmp_ge 74 dX6_bound_14 (by decide) (fun hc14 => ?_) (fun hc14 => absurd (show i 17 ≤ nI j by rw [hk]; exact nI_le (by omega) (by omega)) hc14)
    refine MW.iload_n dX6_bound_74 rfl ?_
    refine MW.aload_n dX6_bound_75 rfl ?_
    refine MW.getf fX6_bound_76 18 rfl rfl ?_
    refine MW.icmp_ge 86 dX6_bound_79 (by decide) (fun hc79 => ?_) (fun hc79 => ?_)
    · skip
      refine MW.aload_n dX6_bound_86 rfl ?_
      refine MW.getf fX6_bound_87 18 rfl rfl ?_
      exact MW.ireturn dX6_bound_90 rfl (rfl) (rt_e (by unfold mn; first | rw [if_pos hc79] | rw [if_neg hc79] | rw [if_pos (Int32.not_le.mp hc79)] | rw [if_neg (Int32.not_lt.mpr hc79)]))
    · skip
      refine MW.iload_n dX6_bound_82 rfl ?_
      refine MW.goto 90 dX6_bound_83 (by decide) ?_
      exact MW.ireturn dX6_bound_90 rfl (rfl) (rt_e (by unfold mn; first | rw [if_pos hc79] | rw [if_neg hc79] | rw [if_pos (Int32.not_le.mp hc79)] | rw [if_neg (Int32.not_lt.mpr hc79)]))
  | succ r ih =>
    intro j z3 z4 hr
    have hj : j < 8 := by omega
    refine MW.iload_n dX6_bound_9 rfl ?_
    refine MW.aload_n dX6_bound_10 rfl ?_
    refine MW.getf fX6_bound_11 18 rfl rfl ?_
    refine MW.icmp_ge 74 dX6_bound_14 (by decide) (fun hc14 => absurd hc14 (show ¬ i 17 ≤ nI j by rw [hk]; exact nI_ge (by omega) (by omega))) (fun hc14 => ?_)
    refine MW.iconst (v := 0) dX6_bound_17 (by decide) ?_
    refine MW.istore_n dX6_bound_18 rfl rfl ?_
    refine MW.iconst (v := 0) dX6_bound_19 (by decide) ?_
    refine MW.istore dX6_bound_20 rfl rfl ?_
    refine MW.locs (lv' := [some (.ref (q 18)), some (.int (psn (fsM a k n) j)), some (.int (nI j)), some (.int (bI (∃ m, m < 0 ∧ ¬ ko a k j (nI m) 2 ∧ ¬ ko a k j (nI m) 3))), some (.int (nI 0))]) (by rw [bI_f (fun ⟨m, h1, _⟩ => absurd h1 (by omega))]; rfl) ?_
    refine lb_22 hk hk8 hn hn12 hj ?_ n 0 (by omega)
    refine MW.iload_n dX6_bound_61 rfl ?_
    refine MW.if_eq 68 dX6_bound_62 (by decide) (fun hc62 => ?_) (fun hc62 => ?_)
    · skip
      refine MW.iincj dX6_bound_68 rfl rfl rfl ?_
      refine MW.goto 9 dX6_bound_71 (by decide) ?_
      refine MW.locs (lv' := [some (.ref (q 18)), some (.int (psn (fsM a k n) (j + 1))), some (.int (nI (j + 1))), some (.int (bI (fsM a k n j))), some (.int (nI n))]) ?_ (ih (j + 1) _ _ (by omega))
      first
        | rw [show psn (fsM a k n) (j + 1) = psn (fsM a k n) j from cI_f (zz hc62)]; rfl
        | rw [show psn (fsM a k n) (j + 1) = psn (fsM a k n) j + 1 from cI_t (nz hc62)]; rfl
    · skip
      refine MW.iinc1 dX6_bound_65 rfl rfl rfl ?_
      refine MW.iincj dX6_bound_68 rfl rfl rfl ?_
      refine MW.goto 9 dX6_bound_71 (by decide) ?_
      refine MW.locs (lv' := [some (.ref (q 18)), some (.int (psn (fsM a k n) (j + 1))), some (.int (nI (j + 1))), some (.int (bI (fsM a k n j))), some (.int (nI n))]) ?_ (ih (j + 1) _ _ (by omega))
      first
        | rw [show psn (fsM a k n) (j + 1) = psn (fsM a k n) j from cI_f (zz hc62)]; rfl
        | rw [show psn (fsM a k n) (j + 1) = psn (fsM a k n) j + 1 from cI_t (nz hc62)]; rfl
theorem m_bound {k : Nat} (hk : i 17 = nI k) (hk8 : k ≤ 8) {n : Nat} (hn : i 12 = nI n) (hn12 : n ≤ 12) : MC (En l D t b L xs) MX6_bound (d + 1) [.ref (q 18)] (hw t q i a w) mc ms (rt (some (.int (mn (i 12) (psn (fsM a k n) k)))) (hw t q (upd i 18 0) a w) mc ms) := by
  show MW _ _ _ 0 [some (.ref (q 18)), none, none, none, none] [] _ _ _ _
  refine MW.aload_n dX6_bound_0 rfl ?_
  refine MW.iconst (v := 0) dX6_bound_1 (by decide) ?_
  refine MW.putf fX6_bound_2 18 rfl (rfl) (rfl) rfl ?_
  refine MW.heap hw_s6_8 ?_
  refine MW.iconst (v := 0) dX6_bound_5 (by decide) ?_
  refine MW.istore_n dX6_bound_6 rfl rfl ?_
  refine MW.iconst (v := 0) dX6_bound_7 (by decide) ?_
  refine MW.istore_n dX6_bound_8 rfl rfl ?_
  exact lb_9 (i := (upd i 18 0)) hk hk8 hn hn12 k 0 _ _ (by omega)
end Model6
/-- the reference's order: the cells from the doors on -/
noncomputable def fdm (a : Nat → Nat → Int32) (k : Nat) (s x : Int32) : Nat → Int32 → Int32
  | 0, _ => -1
  | c + 1, y => cI (∃ m, m < k ∧ a 17 m = nI c) (if a 15 (sfr (fun p => a 17 p = nI c) k 0).toNatClampNeg = s then (if y = x then sfr (fun p => a 17 p = nI c) k 0 else fdm a k s x c (y + 1)) else fdm a k s x c y) (fdm a k s x c y)
theorem sfr_in {p : Nat → Prop} : ∀ (r j : Nat), sfr p r j = -1 ∨ ∃ m, j ≤ m ∧ m < j + r ∧ p m ∧ (∀ x, j ≤ x → x < m → ¬ p x) ∧ sfr p r j = nI m := by
  intro r
  induction r with
  | zero => intro j; exact Or.inl rfl
  | succ r ih =>
    intro j
    by_cases hp : p j
    · exact Or.inr ⟨j, Nat.le_refl _, by omega, hp, fun x h1 h2 => absurd h2 (by omega), cI_t hp⟩
    · rw [show sfr p (r + 1) j = sfr p r (j + 1) from cI_f hp]
      rcases ih (j + 1) with h | ⟨m, h1, h2, h3, h4, h5⟩
      · exact Or.inl h
      · refine Or.inr ⟨m, by omega, by omega, h3, fun x y1 y2 => ?_, h5⟩
        rcases Nat.eq_or_lt_of_le y1 with rfl | y3
        · exact hp
        · exact h4 x y3 y2
section Model7
variable {l : Launch} {D : va_G} {t : ty4} {b L : Nat} {xs : Nat → Int32} {q : Nat → Nat} {i : Nat → Int32} {a : Nat → Nat → Int32} {w : Int64} {d mc ms : Nat}
set_option maxHeartbeats 2000000 in
theorem lo_42 {k : Nat} (hk : i 17 = nI k) (hk8 : k ≤ 8) {n : Nat} (hn : i 12 = nI n) (hn12 : n ≤ 12) {s x : Int32} : ∀ (m : Nat) (y : Int32) (z5 : Option Value), m ≤ n → fdm a k s x m y = fdm a k s x n 0 → MW (En l D t b L xs) MX6_order (d + 1) 42 [some (.ref (q 18)), some (.int s), some (.int x), some (.int y), some (.int (nI m - 1)), z5] [] (hw t q i a w) mc ms (rt (some (.int (fdm a k s x n 0))) (hw t q i a w) mc ms) := by
  intro m
  induction m with
  | zero =>
    intro y z5 hr hI
    refine MW.iload dX6_order_42 rfl ?_
    refine MW.if_lt 89 dX6_order_44 (by decide) (fun hc44 => ?_) (fun hc44 => absurd m1_neg hc44)
    refine MW.iconst (v := -1) dX6_order_89 (by decide) ?_
    exact MW.ireturn dX6_order_90 rfl (rfl) (rt_e hI.symm)
  | succ m ih =>
    intro y z5 hr hI
    rw [nI_pred]
    refine MW.iload dX6_order_42 rfl ?_
    refine MW.if_lt 89 dX6_order_44 (by decide) (fun hc44 => absurd hc44 (nI_pos (by omega))) (fun hc44 => ?_)
    refine MW.aload_n dX6_order_47 rfl ?_
    refine MW.iload dX6_order_48 rfl ?_
    refine MW.callV1 fX6_order_50 18 rfl (m_standsAt hk hk8) rfl rfl rfl rfl (Nat.le_of_ble_eq_true rfl) ?_
    refine MW.istore dX6_order_53 rfl rfl ?_
    refine MW.iload dX6_order_55 rfl ?_
    refine MW.iconst (v := -1) dX6_order_57 (by decide) ?_
    refine MW.icmp_eq 83 dX6_order_58 (by decide) (fun hc58 => ?_) (fun hc58 => ?_)
    · skip
      refine MW.iincs dX6_order_83 rfl rfl rfl ?_
      refine MW.goto 42 dX6_order_86 (by decide) ?_
      exact ih _ _ (by omega) (by rw [← hI]; exact (cI_f ((sfr_0 (by omega)).mp hc58)).symm)
    · skip
      rcases sfr_in (p := fun p => a 17 p = nI m) k 0 with e1 | ⟨m2, h1, h2, h3, h4, e2⟩
      · exact absurd e1 hc58
      refine MW.locs (lv' := [some (.ref (q 18)), some (.int s), some (.int x), some (.int y), some (.int (nI m)), some (.int (nI m2))]) (by rw [← e2]; rfl) ?_
      refine MW.aload_n dX6_order_61 rfl ?_
      refine MW.getf fX6_order_62 18 rfl rfl ?_
      refine MW.iload dX6_order_65 rfl ?_
      refine MW.iaj dX6_order_67 24 0 rfl rfl (show m2 < 8 by omega) (by decide) ?_
      refine MW.iload_n dX6_order_68 rfl ?_
      refine MW.icmp_ne 83 dX6_order_69 (by decide) (fun hc69 => ?_) (fun hc69 => ?_)
      · skip
        refine MW.iincs dX6_order_83 rfl rfl rfl ?_
        refine MW.goto 42 dX6_order_86 (by decide) ?_
        exact ih _ _ (by omega) (by rw [← hI]; show _ = fdm a k s x (m + 1) y; conv => rhs; unfold fdm; rw [cI_t (show ∃ p, p < k ∧ a 17 p = nI m from Classical.byContradiction (fun z => hc58 ((sfr_0 (by omega)).mpr z))), e2, nI_clamp (by omega)]; first | rw [if_neg hc69] | rw [if_pos hc69, if_neg hc74])
      · skip
        refine MW.iload_n dX6_order_72 rfl ?_
        refine MW.iload_n dX6_order_73 rfl ?_
        refine MW.icmp_ne 80 dX6_order_74 (by decide) (fun hc74 => ?_) (fun hc74 => ?_)
        · skip
          refine MW.iinc1 dX6_order_80 rfl rfl rfl ?_
          refine MW.iincs dX6_order_83 rfl rfl rfl ?_
          refine MW.goto 42 dX6_order_86 (by decide) ?_
          exact ih _ _ (by omega) (by rw [← hI]; show _ = fdm a k s x (m + 1) y; conv => rhs; unfold fdm; rw [cI_t (show ∃ p, p < k ∧ a 17 p = nI m from Classical.byContradiction (fun z => hc58 ((sfr_0 (by omega)).mpr z))), e2, nI_clamp (by omega)]; first | rw [if_neg hc69] | rw [if_pos hc69, if_neg hc74])
        · skip
          refine MW.iload dX6_order_77 rfl ?_
          exact MW.ireturn dX6_order_79 rfl (rfl) (rt_e (by rw [← hI, ← e2]; show fdm a k s x (m + 1) y = _; unfold fdm; rw [cI_t (show ∃ p, p < k ∧ a 17 p = nI m from Classical.byContradiction (fun z => hc58 ((sfr_0 (by omega)).mpr z))), e2, nI_clamp (by omega), if_pos hc69, if_pos hc74]))
set_option maxHeartbeats 2000000 in
theorem m_order_1 {s x : Int32} (h1 : ¬ ((1 ≤ s ∧ s ≤ 9) ∧ 0 ≤ x)) : MC (En l D t b L xs) MX6_order 20 [.ref (q 18), .int s, .int x] (hw t q i a w) mc ms (rt (some (.int 0)) (hw t q (upd i 18 1) a w) mc ms) := by
  show MW _ _ _ 0 [some (.ref (q 18)), some (.int s), some (.int x), none, none, none] [] _ _ _ _
  refine MW.aload_n dX6_order_0 rfl ?_
  refine MW.iload_n dX6_order_1 rfl ?_
  refine MW.iconst (v := 1) dX6_order_2 (by decide) ?_
  refine MW.bipush (v := 9) dX6_order_3 (by decide) ?_
  refine MW.callS1 fX6_order_5 (c_within) rfl rfl rfl rfl (Nat.le_of_ble_eq_true rfl) ?_
  refine MW.if_eq 19 dX6_order_8 (by decide) (fun hc8 => ?_) (fun hc8 => ?_)
  · skip
    refine MW.iconst (v := 1) dX6_order_19 (by decide) ?_
    refine MW.putf fX6_order_20 18 rfl (rfl) (rfl) rfl ?_
    refine MW.heap hw_s6_8 ?_
    refine MW.aload_n dX6_order_23 rfl ?_
    refine MW.getf fX6_order_24 18 rfl rfl ?_
    refine MW.if_eq 32 dX6_order_27 (by decide) (fun hc27 => absurd hc27 (show ¬ (1 : Int32) = 0 by decide)) (fun hc27 => ?_)
    refine MW.iconst (v := 0) dX6_order_30 (by decide) ?_
    exact MW.ireturn dX6_order_31 rfl (rfl) rt_r
  · skip
    refine MW.iload_n dX6_order_11 rfl ?_
    refine MW.if_lt 19 dX6_order_12 (by decide) (fun hc12 => ?_) (fun hc12 => ?_)
    · skip
      refine MW.iconst (v := 1) dX6_order_19 (by decide) ?_
      refine MW.putf fX6_order_20 18 rfl (rfl) (rfl) rfl ?_
      refine MW.heap hw_s6_8 ?_
      refine MW.aload_n dX6_order_23 rfl ?_
      refine MW.getf fX6_order_24 18 rfl rfl ?_
      refine MW.if_eq 32 dX6_order_27 (by decide) (fun hc27 => absurd hc27 (show ¬ (1 : Int32) = 0 by decide)) (fun hc27 => ?_)
      refine MW.iconst (v := 0) dX6_order_30 (by decide) ?_
      exact MW.ireturn dX6_order_31 rfl (rfl) rt_r
    · skip
      exact absurd ⟨nz hc8, Int32.not_lt.mp hc12⟩ h1
set_option maxHeartbeats 2000000 in
theorem m_order_ok {k : Nat} (hk : i 17 = nI k) (hk8 : k ≤ 8) {n : Nat} (hn : i 12 = nI n) (hn12 : n ≤ 12) {s x : Int32} (h1 : (1 ≤ s ∧ s ≤ 9) ∧ 0 ≤ x) : MC (En l D t b L xs) MX6_order 20 [.ref (q 18), .int s, .int x] (hw t q i a w) mc ms (rt (some (.int (fdm a k s x n 0))) (hw t q (upd i 18 0) a w) mc ms) := by
  show MW _ _ _ 0 [some (.ref (q 18)), some (.int s), some (.int x), none, none, none] [] _ _ _ _
  refine MW.aload_n dX6_order_0 rfl ?_
  refine MW.iload_n dX6_order_1 rfl ?_
  refine MW.iconst (v := 1) dX6_order_2 (by decide) ?_
  refine MW.bipush (v := 9) dX6_order_3 (by decide) ?_
  refine MW.callS1 fX6_order_5 (c_within) rfl rfl rfl rfl (Nat.le_of_ble_eq_true rfl) ?_
  refine MW.if_eq 19 dX6_order_8 (by decide) (fun hc8 => absurd hc8 (fun z => zz z h1.1)) (fun hc8 => ?_)
  refine MW.iload_n dX6_order_11 rfl ?_
  refine MW.if_lt 19 dX6_order_12 (by decide) (fun hc12 => absurd hc12 (Int32.not_lt.mpr h1.2)) (fun hc12 => ?_)
  refine MW.iconst (v := 0) dX6_order_15 (by decide) ?_
  refine MW.goto 20 dX6_order_16 (by decide) ?_
  refine MW.putf fX6_order_20 18 rfl (rfl) (rfl) rfl ?_
  refine MW.heap hw_s6_8 ?_
  refine MW.aload_n dX6_order_23 rfl ?_
  refine MW.getf fX6_order_24 18 rfl rfl ?_
  refine MW.if_eq 32 dX6_order_27 (by decide) (fun hc27 => ?_) (fun hc27 => absurd (show (0 : Int32) = 0 from rfl) hc27)
  refine MW.iconst (v := 0) dX6_order_32 (by decide) ?_
  refine MW.istore_n dX6_order_33 rfl rfl ?_
  refine MW.aload_n dX6_order_34 rfl ?_
  refine MW.getf fX6_order_35 18 rfl rfl ?_
  refine MW.iconst (v := 1) dX6_order_38 (by decide) ?_
  refine MW.isub dX6_order_39 ?_
  refine MW.top (v' := .int (nI n - 1)) (by show Value.int (i 12 - 1) = _; rw [hn]) ?_
  refine MW.istore dX6_order_40 rfl rfl ?_
  exact lo_42 (i := (upd i 18 0)) hk hk8 hn hn12 n 0 none (Nat.le_refl _) rfl
set_option maxHeartbeats 2000000 in
theorem m_seal_1 {x : Int32} (h1 : ¬ (1 ≤ x ∧ x ≤ 1000000)) : MC (En l D t b L xs) MX6_seal 20 [.ref (q 18), .int x] (hw t q i a w) mc ms (rt (some (.int 0)) (hw t q (upd i 18 1) a w) mc ms) := by
  show MW _ _ _ 0 [some (.ref (q 18)), some (.int x), none] [] _ _ _ _
  refine MW.aload_n dX6_seal_0 rfl ?_
  refine MW.iload_n dX6_seal_1 rfl ?_
  refine MW.iconst (v := 1) dX6_seal_2 (by decide) ?_
  refine MW.ldc dX6_seal_3 fX6_seal_3 ?_
  refine MW.callS1 fX6_seal_5 (c_within) rfl rfl rfl rfl (Nat.le_of_ble_eq_true rfl) ?_
  refine MW.if_ne 15 dX6_seal_8 (by decide) (fun hc8 => absurd (bI_0.mpr h1) hc8) (fun hc8 => ?_)
  refine MW.iconst (v := 1) dX6_seal_11 (by decide) ?_
  refine MW.goto 47 dX6_seal_12 (by decide) ?_
  refine MW.putf fX6_seal_47 18 rfl (rfl) (rfl) rfl ?_
  refine MW.heap hw_s6_8 ?_
  refine MW.aload_n dX6_seal_50 rfl ?_
  refine MW.getf fX6_seal_51 18 rfl rfl ?_
  refine MW.if_eq 59 dX6_seal_54 (by decide) (fun hc54 => absurd hc54 (show ¬ (1 : Int32) = 0 by decide)) (fun hc54 => ?_)
  refine MW.iconst (v := 0) dX6_seal_57 (by decide) ?_
  exact MW.ireturn dX6_seal_58 rfl (rfl) rt_r
set_option maxHeartbeats 2000000 in
theorem m_seal_2 {x : Int32} (h1 : 1 ≤ x ∧ x ≤ 1000000) (h2 : ¬ i 20 = 0 ∨ ¬ i 21 = 0) : MC (En l D t b L xs) MX6_seal 20 [.ref (q 18), .int x] (hw t q i a w) mc ms (rt (some (.int 0)) (hw t q (upd i 18 2) a w) mc ms) := by
  show MW _ _ _ 0 [some (.ref (q 18)), some (.int x), none] [] _ _ _ _
  refine MW.aload_n dX6_seal_0 rfl ?_
  refine MW.iload_n dX6_seal_1 rfl ?_
  refine MW.iconst (v := 1) dX6_seal_2 (by decide) ?_
  refine MW.ldc dX6_seal_3 fX6_seal_3 ?_
  refine MW.callS1 fX6_seal_5 (c_within) rfl rfl rfl rfl (Nat.le_of_ble_eq_true rfl) ?_
  refine MW.if_ne 15 dX6_seal_8 (by decide) (fun hc8 => ?_) (fun hc8 => absurd hc8 (fun z => zz z h1))
  refine MW.aload_n dX6_seal_15 rfl ?_
  refine MW.getf fX6_seal_16 18 rfl rfl ?_
  refine MW.if_ne 29 dX6_seal_19 (by decide) (fun hc19 => ?_) (fun hc19 => ?_)
  · skip
    refine MW.iconst (v := 2) dX6_seal_29 (by decide) ?_
    refine MW.goto 47 dX6_seal_30 (by decide) ?_
    refine MW.putf fX6_seal_47 18 rfl (rfl) (rfl) rfl ?_
    refine MW.heap hw_s6_8 ?_
    refine MW.aload_n dX6_seal_50 rfl ?_
    refine MW.getf fX6_seal_51 18 rfl rfl ?_
    refine MW.if_eq 59 dX6_seal_54 (by decide) (fun hc54 => absurd hc54 (show ¬ (2 : Int32) = 0 by decide)) (fun hc54 => ?_)
    refine MW.iconst (v := 0) dX6_seal_57 (by decide) ?_
    exact MW.ireturn dX6_seal_58 rfl (rfl) rt_r
  · skip
    refine MW.aload_n dX6_seal_22 rfl ?_
    refine MW.getf fX6_seal_23 18 rfl rfl ?_
    refine MW.if_eq 33 dX6_seal_26 (by decide) (fun hc26 => absurd hc26 (h2.resolve_left (fun z => z hc19))) (fun hc26 => ?_)
    refine MW.iconst (v := 2) dX6_seal_29 (by decide) ?_
    refine MW.goto 47 dX6_seal_30 (by decide) ?_
    refine MW.putf fX6_seal_47 18 rfl (rfl) (rfl) rfl ?_
    refine MW.heap hw_s6_8 ?_
    refine MW.aload_n dX6_seal_50 rfl ?_
    refine MW.getf fX6_seal_51 18 rfl rfl ?_
    refine MW.if_eq 59 dX6_seal_54 (by decide) (fun hc54 => absurd hc54 (show ¬ (2 : Int32) = 0 by decide)) (fun hc54 => ?_)
    refine MW.iconst (v := 0) dX6_seal_57 (by decide) ?_
    exact MW.ireturn dX6_seal_58 rfl (rfl) rt_r
set_option maxHeartbeats 2000000 in
theorem m_seal_3 {x : Int32} (h1 : 1 ≤ x ∧ x ≤ 1000000) (h2 : i 20 = 0) (h3 : i 21 = 0) (h4 : i 22 = 10) : MC (En l D t b L xs) MX6_seal 20 [.ref (q 18), .int x] (hw t q i a w) mc ms (rt (some (.int 0)) (hw t q (upd i 18 3) a w) mc ms) := by
  show MW _ _ _ 0 [some (.ref (q 18)), some (.int x), none] [] _ _ _ _
  refine MW.aload_n dX6_seal_0 rfl ?_
  refine MW.iload_n dX6_seal_1 rfl ?_
  refine MW.iconst (v := 1) dX6_seal_2 (by decide) ?_
  refine MW.ldc dX6_seal_3 fX6_seal_3 ?_
  refine MW.callS1 fX6_seal_5 (c_within) rfl rfl rfl rfl (Nat.le_of_ble_eq_true rfl) ?_
  refine MW.if_ne 15 dX6_seal_8 (by decide) (fun hc8 => ?_) (fun hc8 => absurd hc8 (fun z => zz z h1))
  refine MW.aload_n dX6_seal_15 rfl ?_
  refine MW.getf fX6_seal_16 18 rfl rfl ?_
  refine MW.if_ne 29 dX6_seal_19 (by decide) (fun hc19 => absurd h2 hc19) (fun hc19 => ?_)
  refine MW.aload_n dX6_seal_22 rfl ?_
  refine MW.getf fX6_seal_23 18 rfl rfl ?_
  refine MW.if_eq 33 dX6_seal_26 (by decide) (fun hc26 => ?_) (fun hc26 => absurd h3 hc26)
  refine MW.aload_n dX6_seal_33 rfl ?_
  refine MW.getf fX6_seal_34 18 rfl rfl ?_
  refine MW.bipush (v := 10) dX6_seal_37 (by decide) ?_
  refine MW.icmp_ne 46 dX6_seal_39 (by decide) (fun hc39 => absurd h4 hc39) (fun hc39 => ?_)
  refine MW.iconst (v := 3) dX6_seal_42 (by decide) ?_
  refine MW.goto 47 dX6_seal_43 (by decide) ?_
  refine MW.putf fX6_seal_47 18 rfl (rfl) (rfl) rfl ?_
  refine MW.heap hw_s6_8 ?_
  refine MW.aload_n dX6_seal_50 rfl ?_
  refine MW.getf fX6_seal_51 18 rfl rfl ?_
  refine MW.if_eq 59 dX6_seal_54 (by decide) (fun hc54 => absurd hc54 (show ¬ (3 : Int32) = 0 by decide)) (fun hc54 => ?_)
  refine MW.iconst (v := 0) dX6_seal_57 (by decide) ?_
  exact MW.ireturn dX6_seal_58 rfl (rfl) rt_r
set_option maxHeartbeats 2000000 in
theorem ls_61 {g : Nat} (hg : i 22 = nI g) (hg10 : g ≤ 10) {x : Int32} {Q : mi_O → va_W → Nat → Nat → Prop} (h0 : ∀ m, m < g → a 19 m = x → Q (.inl (some (.int 0))) (hw t q i a w) mc ms) (hQ : (¬ (∃ m, m < g ∧ a 19 m = x)) → MW (En l D t b L xs) MX6_seal 20 87 [some (.ref (q 18)), some (.int x), some (.int (nI g))] [] (hw t q i a w) mc ms Q) : ∀ (r j : Nat), j + r = g → (∀ m, m < j → ¬ a 19 m = x) → MW (En l D t b L xs) MX6_seal 20 61 [some (.ref (q 18)), some (.int x), some (.int (nI j))] [] (hw t q i a w) mc ms Q := by
  intro r
  induction r with
  | zero =>
    intro j hr hI
    obtain rfl : j = g := by omega
    refine MW.iload_n dX6_seal_61 rfl ?_
    refine MW.aload_n dX6_seal_62 rfl ?_
    refine MW.getf fX6_seal_63 18 rfl rfl ?_
    refine MW.icmp_ge 87 dX6_seal_66 (by decide) (fun hc66 => ?_) (fun hc66 => absurd (show i 22 ≤ nI j by rw [hg]; exact nI_le (by omega) (by omega)) hc66)
    exact hQ (fun ⟨m, y1, y2⟩ => hI m y1 y2)
  | succ r ih =>
    intro j hr hI
    have hj : j < 10 := by omega
    refine MW.iload_n dX6_seal_61 rfl ?_
    refine MW.aload_n dX6_seal_62 rfl ?_
    refine MW.getf fX6_seal_63 18 rfl rfl ?_
    refine MW.icmp_ge 87 dX6_seal_66 (by decide) (fun hc66 => absurd hc66 (show ¬ i 22 ≤ nI j by rw [hg]; exact nI_ge (by omega) (by omega))) (fun hc66 => ?_)
    refine MW.aload_n dX6_seal_69 rfl ?_
    refine MW.getf fX6_seal_70 18 rfl rfl ?_
    refine MW.iload_n dX6_seal_73 rfl ?_
    refine MW.iaj dX6_seal_74 28 0 rfl rfl hj (by decide) ?_
    refine MW.iload_n dX6_seal_75 rfl ?_
    refine MW.icmp_ne 81 dX6_seal_76 (by decide) (fun hc76 => ?_) (fun hc76 => ?_)
    · skip
      refine MW.iincj dX6_seal_81 rfl rfl rfl ?_
      refine MW.goto 61 dX6_seal_84 (by decide) ?_
      exact ih (j + 1) (by omega) (lt_s hI hc76)
    · skip
      refine MW.iconst (v := 0) dX6_seal_79 (by decide) ?_
      exact MW.ireturn dX6_seal_80 rfl (rfl) (h0 j (by omega) hc76)
set_option maxHeartbeats 2000000 in
theorem m_seal_no {g : Nat} (hg : i 22 = nI g) (hg10 : g ≤ 10) (hg9 : g < 10) {x : Int32} (h1 : 1 ≤ x ∧ x ≤ 1000000) (h2 : i 20 = 0) (h3 : i 21 = 0) (h4 : (∃ m, m < g ∧ a 19 m = x)) : MC (En l D t b L xs) MX6_seal 20 [.ref (q 18), .int x] (hw t q i a w) mc ms (rt (some (.int 0)) (hw t q (upd i 18 0) a w) mc ms) := by
  show MW _ _ _ 0 [some (.ref (q 18)), some (.int x), none] [] _ _ _ _
  refine MW.aload_n dX6_seal_0 rfl ?_
  refine MW.iload_n dX6_seal_1 rfl ?_
  refine MW.iconst (v := 1) dX6_seal_2 (by decide) ?_
  refine MW.ldc dX6_seal_3 fX6_seal_3 ?_
  refine MW.callS1 fX6_seal_5 (c_within) rfl rfl rfl rfl (Nat.le_of_ble_eq_true rfl) ?_
  refine MW.if_ne 15 dX6_seal_8 (by decide) (fun hc8 => ?_) (fun hc8 => absurd hc8 (fun z => zz z h1))
  refine MW.aload_n dX6_seal_15 rfl ?_
  refine MW.getf fX6_seal_16 18 rfl rfl ?_
  refine MW.if_ne 29 dX6_seal_19 (by decide) (fun hc19 => absurd h2 hc19) (fun hc19 => ?_)
  refine MW.aload_n dX6_seal_22 rfl ?_
  refine MW.getf fX6_seal_23 18 rfl rfl ?_
  refine MW.if_eq 33 dX6_seal_26 (by decide) (fun hc26 => ?_) (fun hc26 => absurd h3 hc26)
  refine MW.aload_n dX6_seal_33 rfl ?_
  refine MW.getf fX6_seal_34 18 rfl rfl ?_
  refine MW.bipush (v := 10) dX6_seal_37 (by decide) ?_
  refine MW.icmp_ne 46 dX6_seal_39 (by decide) (fun hc39 => ?_) (fun hc39 => absurd hc39 (show ¬ i 22 = 10 by rw [hg]; exact fun z => absurd ((nI_eq (b := 10) (by omega) (by omega)).mp z) (by omega)))
  refine MW.iconst (v := 0) dX6_seal_46 (by decide) ?_
  refine MW.putf fX6_seal_47 18 rfl (rfl) (rfl) rfl ?_
  refine MW.heap hw_s6_8 ?_
  refine MW.aload_n dX6_seal_50 rfl ?_
  refine MW.getf fX6_seal_51 18 rfl rfl ?_
  refine MW.if_eq 59 dX6_seal_54 (by decide) (fun hc54 => ?_) (fun hc54 => absurd (show (0 : Int32) = 0 from rfl) hc54)
  refine MW.iconst (v := 0) dX6_seal_59 (by decide) ?_
  refine MW.istore_n dX6_seal_60 rfl rfl ?_
  exact ls_61 (i := (upd i 18 0)) hg hg10 (fun _ _ _ => rt_r) (fun z => absurd h4 z) g 0 (by omega) (fun m h => absurd h (by omega))
set_option maxHeartbeats 2000000 in
theorem m_seal_ok {g : Nat} (hg : i 22 = nI g) (hg10 : g ≤ 10) (hg9 : g < 10) {x : Int32} (h1 : 1 ≤ x ∧ x ≤ 1000000) (h2 : i 20 = 0) (h3 : i 21 = 0) (h4 : ¬ (∃ m, m < g ∧ a 19 m = x)) : MC (En l D t b L xs) MX6_seal 20 [.ref (q 18), .int x] (hw t q i a w) mc ms (rt (some (.int 1)) (hw t q (upd (upd (upd i 18 0) 22 (nI (g + 1))) 21 x) (au a 19 (upd (a 19) g x)) w) mc ms) := by
  show MW _ _ _ 0 [some (.ref (q 18)), some (.int x), none] [] _ _ _ _
  refine MW.aload_n dX6_seal_0 rfl ?_
  refine MW.iload_n dX6_seal_1 rfl ?_
  refine MW.iconst (v := 1) dX6_seal_2 (by decide) ?_
  refine MW.ldc dX6_seal_3 fX6_seal_3 ?_
  refine MW.callS1 fX6_seal_5 (c_within) rfl rfl rfl rfl (Nat.le_of_ble_eq_true rfl) ?_
  refine MW.if_ne 15 dX6_seal_8 (by decide) (fun hc8 => ?_) (fun hc8 => absurd hc8 (fun z => zz z h1))
  refine MW.aload_n dX6_seal_15 rfl ?_
  refine MW.getf fX6_seal_16 18 rfl rfl ?_
  refine MW.if_ne 29 dX6_seal_19 (by decide) (fun hc19 => absurd h2 hc19) (fun hc19 => ?_)
  refine MW.aload_n dX6_seal_22 rfl ?_
  refine MW.getf fX6_seal_23 18 rfl rfl ?_
  refine MW.if_eq 33 dX6_seal_26 (by decide) (fun hc26 => ?_) (fun hc26 => absurd h3 hc26)
  refine MW.aload_n dX6_seal_33 rfl ?_
  refine MW.getf fX6_seal_34 18 rfl rfl ?_
  refine MW.bipush (v := 10) dX6_seal_37 (by decide) ?_
  refine MW.icmp_ne 46 dX6_seal_39 (by decide) (fun hc39 => ?_) (fun hc39 => absurd hc39 (show ¬ i 22 = 10 by rw [hg]; exact fun z => absurd ((nI_eq (b := 10) (by omega) (by omega)).mp z) (by omega)))
  refine MW.iconst (v := 0) dX6_seal_46 (by decide) ?_
  refine MW.putf fX6_seal_47 18 rfl (rfl) (rfl) rfl ?_
  refine MW.heap hw_s6_8 ?_
  refine MW.aload_n dX6_seal_50 rfl ?_
  refine MW.getf fX6_seal_51 18 rfl rfl ?_
  refine MW.if_eq 59 dX6_seal_54 (by decide) (fun hc54 => ?_) (fun hc54 => absurd (show (0 : Int32) = 0 from rfl) hc54)
  refine MW.iconst (v := 0) dX6_seal_59 (by decide) ?_
  refine MW.istore_n dX6_seal_60 rfl rfl ?_
  refine ls_61 (i := (upd i 18 0)) hg hg10 (fun m y1 y2 => absurd ⟨m, y1, y2⟩ h4) (fun _ => ?_) g 0 (by omega) (fun m h => absurd h (by omega))
  refine MW.aload_n dX6_seal_87 rfl ?_
  refine MW.getf fX6_seal_88 18 rfl rfl ?_
  refine MW.aload_n dX6_seal_91 rfl ?_
  refine MW.getf fX6_seal_92 18 rfl rfl ?_
  refine MW.top (v' := .int (nI g)) (by show Value.int (i 22) = _; rw [hg]) ?_
  refine MW.iload_n dX6_seal_95 rfl ?_
  refine MW.isj dX6_seal_96 28 0 rfl rfl hg9 (by decide) ?_
  refine MW.heap hw_a28 ?_
  refine MW.aload_n dX6_seal_97 rfl ?_
  refine MW.dup dX6_seal_98 rfl ?_
  refine MW.getf fX6_seal_99 18 rfl rfl ?_
  refine MW.top (v' := .int (nI g)) (by show Value.int (i 22) = _; rw [hg]) ?_
  refine MW.iconst (v := 1) dX6_seal_102 (by decide) ?_
  refine MW.iadd dX6_seal_103 ?_
  refine MW.top (v' := .int (nI (g + 1))) (by rw [nI_1]) ?_
  refine MW.putf fX6_seal_104 18 rfl (rfl) (rfl) rfl ?_
  refine MW.heap hw_s6_19 ?_
  refine MW.aload_n dX6_seal_107 rfl ?_
  refine MW.iload_n dX6_seal_108 rfl ?_
  refine MW.putf fX6_seal_109 18 rfl (rfl) (rfl) rfl ?_
  refine MW.heap hw_s6_18 ?_
  refine MW.iconst (v := 1) dX6_seal_112 (by decide) ?_
  exact MW.ireturn dX6_seal_113 rfl (rfl) ⟨rfl, rfl, rfl, rfl⟩
theorem gcd_s {p r : Nat} : Nat.gcd r (p % r) = Nat.gcd p r := by
  rw [Nat.gcd_comm p r]
  conv => rhs; rw [Nat.gcd_rec]
  exact Nat.gcd_comm _ _
end Model7
section Gcd
variable {E : mi_E} {h : va_W} {d mc ms : Nat}
set_option maxHeartbeats 2000000 in
theorem lg_13 {x0 x1 : Int32} : ∀ (N r p : Nat) (z4 : Option Value), r < N → p < 2 ^ 31 → r < 2 ^ 31 → MW E MX6_common d 13 [some (.int x0), some (.int x1), some (.int (nI p)), some (.int (nI r)), z4] [] h mc ms (rt (some (.int (nI (Nat.gcd p r)))) h mc ms) := by
  intro N
  induction N with
  | zero => intro r p z4 h0; exact absurd h0 (by omega)
  | succ N ih =>
    intro r p z4 h0 hp hr
    rcases Nat.eq_zero_or_pos r with rfl | hr0
    · rw [Nat.gcd_zero_right]
      refine MW.iload_n dX6_common_13 rfl ?_
      refine MW.if_eq 30 dX6_common_14 (by decide) (fun hc14 => ?_) (fun hc14 => absurd (show (nI 0 : Int32) = 0 from rfl) hc14)
      refine MW.iload_n dX6_common_30 rfl ?_
      exact MW.ireturn dX6_common_31 rfl (rfl) rt_r
    · rw [← gcd_s (p := p) (r := r)]
      refine MW.iload_n dX6_common_13 rfl ?_
      refine MW.if_eq 30 dX6_common_14 (by decide) (fun hc14 => absurd hc14 (nI_ne0 hr0 hr)) (fun hc14 => ?_)
      refine MW.iload_n dX6_common_17 rfl ?_
      refine MW.iload_n dX6_common_18 rfl ?_
      refine MW.irem dX6_common_19 (nI_ne0 hr0 hr) ?_
      refine MW.top (v' := .int (nI (p % r))) (by rw [pk_rem hp hr0 hr]) ?_
      refine MW.istore dX6_common_20 rfl rfl ?_
      refine MW.iload_n dX6_common_22 rfl ?_
      refine MW.istore_n dX6_common_23 rfl rfl ?_
      refine MW.iload dX6_common_24 rfl ?_
      refine MW.istore_n dX6_common_26 rfl rfl ?_
      refine MW.goto 13 dX6_common_27 (by decide) ?_
      exact ih (p % r) r _ (by have := Nat.mod_lt p hr0; omega) hr (by have := Nat.mod_lt p hr0; omega)
theorem m_common {y : Int32} {A sp : Nat} (hA : A < 2 ^ 31) (hy : y = nI A ∨ y = -nI A) (hs : sp < 2 ^ 31) : MC E MX6_common d [.int y, .int (nI sp)] h mc ms (rt (some (.int (nI (Nat.gcd A sp)))) h mc ms) := by
  show MW _ _ _ 0 [some (.int y), some (.int (nI sp)), none, none, none] [] _ _ _ _
  refine MW.iload_n dX6_common_0 rfl ?_
  refine MW.if_ge 9 dX6_common_1 (by decide) (fun hc1 => ?_) (fun hc1 => ?_)
  · skip
    have e1 : y = nI A := by
      rcases hy with z | z
      · exact z
      · rcases Nat.eq_zero_or_pos A with rfl | hA0
        · exact z
        · exact absurd hc1 (by rw [z, Int32.not_le, Int32.lt_iff_toInt_lt, sb_negT hA]; show -(A : Int) < 0; omega)
    refine MW.iload_n dX6_common_9 rfl ?_
    refine MW.istore_n dX6_common_10 rfl rfl ?_
    refine MW.iload_n dX6_common_11 rfl ?_
    refine MW.istore_n dX6_common_12 rfl rfl ?_
    refine MW.locs (lv' := [some (.int y), some (.int (nI sp)), some (.int (nI A)), some (.int (nI sp)), none]) (by rw [← e1]; rfl) ?_
    exact lg_13 (sp + 1) sp A _ (by omega) hA hs
  · skip
    have e1 : -y = nI A := by
      rcases hy with z | z
      · exact absurd (z ▸ nI_pos' hA : 0 ≤ y) hc1
      · rw [z, Int32.neg_neg]
    refine MW.iload_n dX6_common_4 rfl ?_
    refine MW.ineg dX6_common_5 ?_
    refine MW.goto 10 dX6_common_6 (by decide) ?_
    refine MW.istore_n dX6_common_10 rfl rfl ?_
    refine MW.iload_n dX6_common_11 rfl ?_
    refine MW.istore_n dX6_common_12 rfl rfl ?_
    refine MW.locs (lv' := [some (.int y), some (.int (nI sp)), some (.int (nI A)), some (.int (nI sp)), none]) (by rw [← e1]; rfl) ?_
    exact lg_13 (sp + 1) sp A _ (by omega) hA hs
end Gcd
section Model8
variable {l : Launch} {D : va_G} {t : ty4} {b L : Nat} {xs : Nat → Int32} {q : Nat → Nat} {i : Nat → Int32} {a : Nat → Nat → Int32} {w : Int64} {d mc ms : Nat}
set_option maxHeartbeats 2000000 in
theorem m_axle_1 {x s : Int32} (h1 : ¬ ((0 ≤ x ∧ x ≤ 1) ∧ (0 ≤ s ∧ s ≤ 1))) : MC (En l D t b L xs) MX6_axle 20 [.ref (q 18), .int x, .int s] (hw t q i a w) mc ms (rt (some (.int 0)) (hw t q (upd i 18 1) a w) mc ms) := by
  show MW _ _ _ 0 [some (.ref (q 18)), some (.int x), some (.int s), none, none, none] [] _ _ _ _
  refine MW.aload_n dX6_axle_0 rfl ?_
  refine MW.iload_n dX6_axle_1 rfl ?_
  refine MW.iconst (v := 0) dX6_axle_2 (by decide) ?_
  refine MW.iconst (v := 1) dX6_axle_3 (by decide) ?_
  refine MW.callS1 fX6_axle_4 (c_within) rfl rfl rfl rfl (Nat.le_of_ble_eq_true rfl) ?_
  refine MW.if_eq 19 dX6_axle_7 (by decide) (fun hc7 => ?_) (fun hc7 => ?_)
  · skip
    refine MW.iconst (v := 1) dX6_axle_19 (by decide) ?_
    refine MW.goto 35 dX6_axle_20 (by decide) ?_
    refine MW.putf fX6_axle_35 18 rfl (rfl) (rfl) rfl ?_
    refine MW.heap hw_s6_8 ?_
    refine MW.aload_n dX6_axle_38 rfl ?_
    refine MW.getf fX6_axle_39 18 rfl rfl ?_
    refine MW.if_eq 47 dX6_axle_42 (by decide) (fun hc42 => absurd hc42 (show ¬ (1 : Int32) = 0 by decide)) (fun hc42 => ?_)
    refine MW.iconst (v := 0) dX6_axle_45 (by decide) ?_
    exact MW.ireturn dX6_axle_46 rfl (rfl) rt_r
  · skip
    refine MW.iload_n dX6_axle_10 rfl ?_
    refine MW.iconst (v := 0) dX6_axle_11 (by decide) ?_
    refine MW.iconst (v := 1) dX6_axle_12 (by decide) ?_
    refine MW.callS1 fX6_axle_13 (c_within) rfl rfl rfl rfl (Nat.le_of_ble_eq_true rfl) ?_
    refine MW.if_ne 23 dX6_axle_16 (by decide) (fun hc16 => ?_) (fun hc16 => ?_)
    · skip
      exact absurd ⟨nz hc7, nz hc16⟩ h1
    · skip
      refine MW.iconst (v := 1) dX6_axle_19 (by decide) ?_
      refine MW.goto 35 dX6_axle_20 (by decide) ?_
      refine MW.putf fX6_axle_35 18 rfl (rfl) (rfl) rfl ?_
      refine MW.heap hw_s6_8 ?_
      refine MW.aload_n dX6_axle_38 rfl ?_
      refine MW.getf fX6_axle_39 18 rfl rfl ?_
      refine MW.if_eq 47 dX6_axle_42 (by decide) (fun hc42 => absurd hc42 (show ¬ (1 : Int32) = 0 by decide)) (fun hc42 => ?_)
      refine MW.iconst (v := 0) dX6_axle_45 (by decide) ?_
      exact MW.ireturn dX6_axle_46 rfl (rfl) rt_r
set_option maxHeartbeats 2000000 in
theorem m_axle_2 {k : Nat} (hk : i 17 = nI k) (hk8 : k ≤ 8) {x s : Int32} (h1 : (0 ≤ x ∧ x ≤ 1) ∧ (0 ≤ s ∧ s ≤ 1)) (h2 : stn (a 17) k = 0) : MC (En l D t b L xs) MX6_axle 20 [.ref (q 18), .int x, .int s] (hw t q i a w) mc ms (rt (some (.int 0)) (hw t q (upd i 18 2) a w) mc ms) := by
  show MW _ _ _ 0 [some (.ref (q 18)), some (.int x), some (.int s), none, none, none] [] _ _ _ _
  refine MW.aload_n dX6_axle_0 rfl ?_
  refine MW.iload_n dX6_axle_1 rfl ?_
  refine MW.iconst (v := 0) dX6_axle_2 (by decide) ?_
  refine MW.iconst (v := 1) dX6_axle_3 (by decide) ?_
  refine MW.callS1 fX6_axle_4 (c_within) rfl rfl rfl rfl (Nat.le_of_ble_eq_true rfl) ?_
  refine MW.if_eq 19 dX6_axle_7 (by decide) (fun hc7 => absurd hc7 (fun z => zz z h1.1)) (fun hc7 => ?_)
  refine MW.iload_n dX6_axle_10 rfl ?_
  refine MW.iconst (v := 0) dX6_axle_11 (by decide) ?_
  refine MW.iconst (v := 1) dX6_axle_12 (by decide) ?_
  refine MW.callS1 fX6_axle_13 (c_within) rfl rfl rfl rfl (Nat.le_of_ble_eq_true rfl) ?_
  refine MW.if_ne 23 dX6_axle_16 (by decide) (fun hc16 => ?_) (fun hc16 => absurd hc16 (fun z => zz z h1.2))
  refine MW.aload_n dX6_axle_23 rfl ?_
  refine MW.callV1 fX6_axle_24 18 rfl (m_standing hk hk8) rfl rfl rfl rfl (Nat.le_of_ble_eq_true rfl) ?_
  refine MW.if_ne 34 dX6_axle_27 (by decide) (fun hc27 => absurd h2 hc27) (fun hc27 => ?_)
  refine MW.iconst (v := 2) dX6_axle_30 (by decide) ?_
  refine MW.goto 35 dX6_axle_31 (by decide) ?_
  refine MW.putf fX6_axle_35 18 rfl (rfl) (rfl) rfl ?_
  refine MW.heap hw_s6_8 ?_
  refine MW.aload_n dX6_axle_38 rfl ?_
  refine MW.getf fX6_axle_39 18 rfl rfl ?_
  refine MW.if_eq 47 dX6_axle_42 (by decide) (fun hc42 => absurd hc42 (show ¬ (2 : Int32) = 0 by decide)) (fun hc42 => ?_)
  refine MW.iconst (v := 0) dX6_axle_45 (by decide) ?_
  exact MW.ireturn dX6_axle_46 rfl (rfl) rt_r
set_option maxHeartbeats 2000000 in
theorem m_axle_ok {k : Nat} (hk : i 17 = nI k) (hk8 : k ≤ 8) {x s : Int32} (h1 : (0 ≤ x ∧ x ≤ 1) ∧ (0 ≤ s ∧ s ≤ 1)) (h2 : ¬ stn (a 17) k = 0) {sp A : Nat} (hsp : i 14 - i 13 = nI sp) (hsp0 : 0 < sp) (hsp1 : sp ≤ 100) (hA : A < 2 ^ 31) (hy : axn (shm i x) (a 12) (a 17) k = nI A ∨ axn (shm i x) (a 12) (a 17) k = -nI A) : MC (En l D t b L xs) MX6_axle 20 [.ref (q 18), .int x, .int s] (hw t q i a w) mc ms (rt (some (.int (if s = 0 then (axn (shm i x) (a 12) (a 17) k) / nI (Nat.gcd A sp) else nI sp / nI (Nat.gcd A sp)))) (hw t q (upd i 18 0) a w) mc ms) := by
  have hg9 : ¬ nI (Nat.gcd A sp) = 0 := nI_ne0 (Nat.gcd_pos_of_pos_right A hsp0) (Nat.lt_of_le_of_lt (Nat.gcd_le_right A hsp0) (by omega))
  show MW _ _ _ 0 [some (.ref (q 18)), some (.int x), some (.int s), none, none, none] [] _ _ _ _
  refine MW.aload_n dX6_axle_0 rfl ?_
  refine MW.iload_n dX6_axle_1 rfl ?_
  refine MW.iconst (v := 0) dX6_axle_2 (by decide) ?_
  refine MW.iconst (v := 1) dX6_axle_3 (by decide) ?_
  refine MW.callS1 fX6_axle_4 (c_within) rfl rfl rfl rfl (Nat.le_of_ble_eq_true rfl) ?_
  refine MW.if_eq 19 dX6_axle_7 (by decide) (fun hc7 => absurd hc7 (fun z => zz z h1.1)) (fun hc7 => ?_)
  refine MW.iload_n dX6_axle_10 rfl ?_
  refine MW.iconst (v := 0) dX6_axle_11 (by decide) ?_
  refine MW.iconst (v := 1) dX6_axle_12 (by decide) ?_
  refine MW.callS1 fX6_axle_13 (c_within) rfl rfl rfl rfl (Nat.le_of_ble_eq_true rfl) ?_
  refine MW.if_ne 23 dX6_axle_16 (by decide) (fun hc16 => ?_) (fun hc16 => absurd hc16 (fun z => zz z h1.2))
  refine MW.aload_n dX6_axle_23 rfl ?_
  refine MW.callV1 fX6_axle_24 18 rfl (m_standing hk hk8) rfl rfl rfl rfl (Nat.le_of_ble_eq_true rfl) ?_
  refine MW.if_ne 34 dX6_axle_27 (by decide) (fun hc27 => ?_) (fun hc27 => absurd hc27 h2)
  refine MW.iconst (v := 0) dX6_axle_34 (by decide) ?_
  refine MW.putf fX6_axle_35 18 rfl (rfl) (rfl) rfl ?_
  refine MW.heap hw_s6_8 ?_
  refine MW.aload_n dX6_axle_38 rfl ?_
  refine MW.getf fX6_axle_39 18 rfl rfl ?_
  refine MW.if_eq 47 dX6_axle_42 (by decide) (fun hc42 => ?_) (fun hc42 => absurd (show (0 : Int32) = 0 from rfl) hc42)
  refine MW.aload_n dX6_axle_47 rfl ?_
  refine MW.iload_n dX6_axle_48 rfl ?_
  refine MW.callV1 fX6_axle_49 18 rfl (m_load (i := (upd i 18 0)) hk hk8) rfl rfl rfl rfl (Nat.le_of_ble_eq_true rfl) ?_
  refine MW.top (v' := .int (axn (shm i x) (a 12) (a 17) k)) rfl ?_
  refine MW.istore_n dX6_axle_52 rfl rfl ?_
  refine MW.aload_n dX6_axle_53 rfl ?_
  refine MW.getf fX6_axle_54 18 rfl rfl ?_
  refine MW.aload_n dX6_axle_57 rfl ?_
  refine MW.getf fX6_axle_58 18 rfl rfl ?_
  refine MW.isub dX6_axle_61 ?_
  refine MW.top (v' := .int (nI sp)) (by show Value.int (i 14 - i 13) = _; rw [hsp]) ?_
  refine MW.istore dX6_axle_62 rfl rfl ?_
  refine MW.iload_n dX6_axle_64 rfl ?_
  refine MW.iload dX6_axle_65 rfl ?_
  refine MW.callS1 fX6_axle_67 (m_common hA hy (by omega)) rfl rfl rfl rfl (Nat.le_of_ble_eq_true rfl) ?_
  refine MW.istore dX6_axle_70 rfl rfl ?_
  refine MW.iload_n dX6_axle_72 rfl ?_
  refine MW.if_ne 83 dX6_axle_73 (by decide) (fun hc73 => ?_) (fun hc73 => ?_)
  · skip
    refine MW.iload dX6_axle_83 rfl ?_
    refine MW.iload dX6_axle_85 rfl ?_
    refine MW.idiv dX6_axle_87 (hg9) ?_
    exact MW.ireturn dX6_axle_88 rfl (rfl) ⟨by first | rw [if_pos hc73] | rw [if_neg hc73], rfl, rfl, rfl⟩
  · skip
    refine MW.iload_n dX6_axle_76 rfl ?_
    refine MW.iload dX6_axle_77 rfl ?_
    refine MW.idiv dX6_axle_79 (hg9) ?_
    refine MW.goto 88 dX6_axle_80 (by decide) ?_
    exact MW.ireturn dX6_axle_88 rfl (rfl) ⟨by first | rw [if_pos hc73] | rw [if_neg hc73], rfl, rfl, rfl⟩
set_option maxHeartbeats 2000000 in
theorem lr_68 {k : Nat} (hk : i 17 = nI k) (hk8 : k ≤ 8) {j : Nat} (hj : j < 8) {u m : Nat} (hm : m < 12) (hu6 : u ≤ 6) {x3 : Int32} {Q : mi_O → va_W → Nat → Nat → Prop} (hQ : ∀ z6, MW (En l D t b L xs) MX6_bar (d + 4) 96 [some (.ref (q 18)), some (.int (nI j)), some (.int (nI u)), some (.int x3), some (.int (nI m)), some (.int (bI (lfP i a k j u m))), z6] [] (hw t q i a w) mc ms Q) : ∀ (r v : Nat), v + r = u → MW (En l D t b L xs) MX6_bar (d + 4) 68 [some (.ref (q 18)), some (.int (nI j)), some (.int (nI u)), some (.int x3), some (.int (nI m)), some (.int (bI (lfP i a k j v m))), some (.int (nI (v + 1)))] [] (hw t q i a w) mc ms Q := by
  intro r
  induction r with
  | zero =>
    intro v hr
    obtain rfl : v = u := by omega
    refine MW.iload dX6_bar_68 rfl ?_
    refine MW.iload_n dX6_bar_70 rfl ?_
    refine MW.icmp_gt 96 dX6_bar_71 (by decide) (fun hc71 => ?_) (fun hc71 => absurd (nI_lt (by omega) (by omega)) hc71)
    exact hQ _
  | succ r ih =>
    intro v hr
    refine MW.iload dX6_bar_68 rfl ?_
    refine MW.iload_n dX6_bar_70 rfl ?_
    refine MW.icmp_gt 96 dX6_bar_71 (by decide) (fun hc71 => absurd hc71 (nI_nlt (by omega) (by omega))) (fun hc71 => ?_)
    refine MW.iload dX6_bar_74 rfl ?_
    refine MW.if_eq 96 dX6_bar_76 (by decide) (fun hc76 => ?_) (fun hc76 => ?_)
    · skip
      refine MW.locs (lv' := [some (.ref (q 18)), some (.int (nI j)), some (.int (nI u)), some (.int x3), some (.int (nI m)), some (.int (bI (lfP i a k j u m))), some (.int (nI (v + 1)))]) (by rw [bI_f (p := lfP i a k j u m) (fun z => zz hc76 (fun v2 h1 h2 => z v2 h1 (by omega))), hc76]) (hQ _)
    · skip
      refine MW.aload_n dX6_bar_79 rfl ?_
      refine MW.iload dX6_bar_80 rfl ?_
      refine MW.iload_n dX6_bar_82 rfl ?_
      refine MW.iload dX6_bar_83 rfl ?_
      refine MW.callV1 fX6_bar_85 18 rfl (m_isLeft hk hk8 hj hm (u := v + 1) (by omega) (by omega)) rfl rfl rfl rfl (Nat.le_of_ble_eq_true rfl) ?_
      refine MW.istore dX6_bar_88 rfl rfl ?_
      refine MW.iincj dX6_bar_90 rfl rfl rfl ?_
      refine MW.goto 68 dX6_bar_93 (by decide) ?_
      refine MW.locs (lv' := [some (.ref (q 18)), some (.int (nI j)), some (.int (nI u)), some (.int x3), some (.int (nI m)), some (.int (bI (lfP i a k j (v + 1) m))), some (.int (nI (v + 1 + 1)))]) ?_ (ih (v + 1) (by omega))
      have e1 : bI (ilP i a k j m (v + 1)) = (bI (lfP i a k j (v + 1) m)) := bI_c ⟨fun z v2 h1 h2 => by
        rcases Nat.eq_or_lt_of_le h2 with rfl | h3
        · exact z
        · exact nz hc76 v2 h1 (by omega), fun z => z (v + 1) (by omega) (Nat.le_refl _)⟩
      rw [← e1]; rfl
set_option maxHeartbeats 2000000 in
theorem lr_53 {k : Nat} (hk : i 17 = nI k) (hk8 : k ≤ 8) {n : Nat} (hn : i 12 = nI n) (hn12 : n ≤ 12) {j : Nat} (hj : j < 8) {u : Nat} (hu6 : u ≤ 6) {Q : mi_O → va_W → Nat → Nat → Prop} (hQ : ∀ z5 z6, MW (En l D t b L xs) MX6_bar (d + 4) 117 [some (.ref (q 18)), some (.int (nI j)), some (.int (nI u)), some (.int (bI (leP i a k n j u))), some (.int (nI n)), z5, z6] [] (hw t q i a w) mc ms Q) : ∀ (r c : Nat) (z5 z6 : Option Value), c + r = n → MW (En l D t b L xs) MX6_bar (d + 4) 53 [some (.ref (q 18)), some (.int (nI j)), some (.int (nI u)), some (.int (bI (∃ m, m < c ∧ lfP i a k j u m))), some (.int (nI c)), z5, z6] [] (hw t q i a w) mc ms Q := by
  intro r
  induction r with
  | zero =>
    intro c z5 z6 hr
    obtain rfl : c = n := by omega
    refine MW.iload dX6_bar_53 rfl ?_
    refine MW.aload_n dX6_bar_55 rfl ?_
    refine MW.getf fX6_bar_56 18 rfl rfl ?_
    refine MW.icmp_ge 117 dX6_bar_59 (by decide) (fun hc59 => ?_) (fun hc59 => absurd (show i 12 ≤ nI c by rw [hn]; exact nI_le (by omega) (by omega)) hc59)
    exact hQ _ _
  | succ r ih =>
    intro c z5 z6 hr
    have hm : c < 12 := by omega
    refine MW.iload dX6_bar_53 rfl ?_
    refine MW.aload_n dX6_bar_55 rfl ?_
    refine MW.getf fX6_bar_56 18 rfl rfl ?_
    refine MW.icmp_ge 117 dX6_bar_59 (by decide) (fun hc59 => absurd hc59 (show ¬ i 12 ≤ nI c by rw [hn]; exact nI_ge (by omega) (by omega))) (fun hc59 => ?_)
    refine MW.iconst (v := 1) dX6_bar_62 (by decide) ?_
    refine MW.istore dX6_bar_63 rfl rfl ?_
    refine MW.iconst (v := 1) dX6_bar_65 (by decide) ?_
    refine MW.istore dX6_bar_66 rfl rfl ?_
    refine MW.locs (lv' := [some (.ref (q 18)), some (.int (nI j)), some (.int (nI u)), some (.int (bI (∃ m, m < c ∧ lfP i a k j u m))), some (.int (nI c)), some (.int (bI (lfP i a k j 0 c))), some (.int (nI (0 + 1)))]) (by rw [bI_t (p := lfP i a k j 0 c) (fun v h1 h2 => absurd h2 (by omega))]; rfl) ?_
    refine lr_68 hk hk8 hj hm hu6 (fun z6 => ?_) u 0 (by omega)
    refine MW.iload_n dX6_bar_96 rfl ?_
    refine MW.if_ne 105 dX6_bar_97 (by decide) (fun hc97 => ?_) (fun hc97 => ?_)
    · skip
      refine MW.iconst (v := 1) dX6_bar_105 (by decide) ?_
      refine MW.goto 110 dX6_bar_106 (by decide) ?_
      refine MW.istore_n dX6_bar_110 rfl rfl ?_
      refine MW.iincj dX6_bar_111 rfl rfl rfl ?_
      refine MW.goto 53 dX6_bar_114 (by decide) ?_
      refine MW.locs (lv' := [some (.ref (q 18)), some (.int (nI j)), some (.int (nI u)), some (.int (bI (∃ m, m < (c + 1) ∧ lfP i a k j u m))), some (.int (nI (c + 1))), some (.int (bI (lfP i a k j u c))), z6]) ?_ (ih (c + 1) _ _ (by omega))
      first
        | rw [bI_t (ex_s.mpr (Or.inl (nz hc97)))]; rfl
        | rw [bI_t (ex_s.mpr (Or.inr (nz hc102)))]; rfl
        | rw [bI_f (fun z => (ex_s.mp z).elim (zz hc97) (zz hc102))]; rfl
    · skip
      refine MW.iload dX6_bar_100 rfl ?_
      refine MW.if_eq 109 dX6_bar_102 (by decide) (fun hc102 => ?_) (fun hc102 => ?_)
      · skip
        refine MW.iconst (v := 0) dX6_bar_109 (by decide) ?_
        refine MW.istore_n dX6_bar_110 rfl rfl ?_
        refine MW.iincj dX6_bar_111 rfl rfl rfl ?_
        refine MW.goto 53 dX6_bar_114 (by decide) ?_
        refine MW.locs (lv' := [some (.ref (q 18)), some (.int (nI j)), some (.int (nI u)), some (.int (bI (∃ m, m < (c + 1) ∧ lfP i a k j u m))), some (.int (nI (c + 1))), some (.int (bI (lfP i a k j u c))), z6]) ?_ (ih (c + 1) _ _ (by omega))
        first
          | rw [bI_t (ex_s.mpr (Or.inl (nz hc97)))]; rfl
          | rw [bI_t (ex_s.mpr (Or.inr (nz hc102)))]; rfl
          | rw [bI_f (fun z => (ex_s.mp z).elim (zz hc97) (zz hc102))]; rfl
      · skip
        refine MW.iconst (v := 1) dX6_bar_105 (by decide) ?_
        refine MW.goto 110 dX6_bar_106 (by decide) ?_
        refine MW.istore_n dX6_bar_110 rfl rfl ?_
        refine MW.iincj dX6_bar_111 rfl rfl rfl ?_
        refine MW.goto 53 dX6_bar_114 (by decide) ?_
        refine MW.locs (lv' := [some (.ref (q 18)), some (.int (nI j)), some (.int (nI u)), some (.int (bI (∃ m, m < (c + 1) ∧ lfP i a k j u m))), some (.int (nI (c + 1))), some (.int (bI (lfP i a k j u c))), z6]) ?_ (ih (c + 1) _ _ (by omega))
        first
          | rw [bI_t (ex_s.mpr (Or.inl (nz hc97)))]; rfl
          | rw [bI_t (ex_s.mpr (Or.inr (nz hc102)))]; rfl
          | rw [bI_f (fun z => (ex_s.mp z).elim (zz hc97) (zz hc102))]; rfl
set_option maxHeartbeats 2000000 in
theorem lr_42 {k : Nat} (hk : i 17 = nI k) (hk8 : k ≤ 8) {n : Nat} (hn : i 12 = nI n) (hn12 : n ≤ 12) {j : Nat} (hj : j < 8) : ∀ (r u : Nat) (z3 z4 z5 z6 : Option Value), u + r = 7 → sfd (fun u => ¬ leP i a k n j u) 0 r u = sfd (fun u => ¬ leP i a k n j u) 0 6 1 → MW (En l D t b L xs) MX6_bar (d + 4) 42 [some (.ref (q 18)), some (.int (nI j)), some (.int (nI u)), z3, z4, z5, z6] [] (hw t q i a w) mc ms (rt (some (.int (sfd (fun u => ¬ leP i a k n j u) 0 6 1))) (hw t q i a w) mc ms) := by
  intro r
  induction r with
  | zero =>
    intro u z3 z4 z5 z6 hr hI
    obtain rfl : u = 7 := by omega
    refine MW.iload_n dX6_bar_42 rfl ?_
    refine MW.bipush (v := 6) dX6_bar_43 (by decide) ?_
    refine MW.icmp_gt 129 dX6_bar_45 (by decide) (fun hc45 => ?_) (fun hc45 => absurd (show (6 : Int32) < nI 7 by decide) hc45)
    refine MW.iconst (v := 0) dX6_bar_129 (by decide) ?_
    exact MW.ireturn dX6_bar_130 rfl (rfl) (rt_e (by rw [← hI]; rfl))
  | succ r ih =>
    intro u z3 z4 z5 z6 hr hI
    refine MW.iload_n dX6_bar_42 rfl ?_
    refine MW.bipush (v := 6) dX6_bar_43 (by decide) ?_
    refine MW.icmp_gt 129 dX6_bar_45 (by decide) (fun hc45 => absurd hc45 (show ¬ (6 : Int32) < nI u from nI_nlt (a := 6) (by omega) (by omega))) (fun hc45 => ?_)
    refine MW.iconst (v := 0) dX6_bar_48 (by decide) ?_
    refine MW.istore_n dX6_bar_49 rfl rfl ?_
    refine MW.iconst (v := 0) dX6_bar_50 (by decide) ?_
    refine MW.istore dX6_bar_51 rfl rfl ?_
    refine MW.locs (lv' := [some (.ref (q 18)), some (.int (nI j)), some (.int (nI u)), some (.int (bI (∃ m, m < 0 ∧ lfP i a k j u m))), some (.int (nI 0)), z5, z6]) (by rw [bI_f (fun ⟨m, h1, _⟩ => absurd h1 (by omega))]; rfl) ?_
    refine lr_53 hk hk8 hn hn12 hj (by omega) (fun z5 z6 => ?_) n 0 _ _ (by omega)
    refine MW.iload_n dX6_bar_117 rfl ?_
    refine MW.if_ne 123 dX6_bar_118 (by decide) (fun hc118 => ?_) (fun hc118 => ?_)
    · skip
      refine MW.iincj dX6_bar_123 rfl rfl rfl ?_
      refine MW.goto 42 dX6_bar_126 (by decide) ?_
      exact ih (u + 1) _ _ _ _ (by omega) (by rw [← hI]; exact (cI_f (fun z => z (nz hc118))).symm)
    · skip
      refine MW.iload_n dX6_bar_121 rfl ?_
      exact MW.ireturn dX6_bar_122 rfl (rfl) (rt_e (by rw [← hI]; exact cI_t (zz hc118)))
set_option maxHeartbeats 2000000 in
theorem m_bar_1 {k : Nat} (hk : i 17 = nI k) (hk8 : k ≤ 8) {p : Int32} (h1 : ¬ (0 ≤ p ∧ p < nI k)) : MC (En l D t b L xs) MX6_bar 20 [.ref (q 18), .int p] (hw t q i a w) mc ms (rt (some (.int 0)) (hw t q (upd i 18 1) a w) mc ms) := by
  show MW _ _ _ 0 [some (.ref (q 18)), some (.int p), none, none, none, none, none] [] _ _ _ _
  refine MW.aload_n dX6_bar_0 rfl ?_
  refine MW.aload_n dX6_bar_1 rfl ?_
  refine MW.iload_n dX6_bar_2 rfl ?_
  refine MW.callV1 fX6_bar_3 18 rfl (m_isPallet) rfl rfl rfl rfl (Nat.le_of_ble_eq_true rfl) ?_
  refine MW.if_ne 13 dX6_bar_6 (by decide) (fun hc6 => absurd (bI_0.mpr (fun z => h1 (by rw [hk] at z; exact z))) hc6) (fun hc6 => ?_)
  refine MW.iconst (v := 1) dX6_bar_9 (by decide) ?_
  refine MW.goto 28 dX6_bar_10 (by decide) ?_
  refine MW.putf fX6_bar_28 18 rfl (rfl) (rfl) rfl ?_
  refine MW.heap hw_s6_8 ?_
  refine MW.aload_n dX6_bar_31 rfl ?_
  refine MW.getf fX6_bar_32 18 rfl rfl ?_
  refine MW.if_eq 40 dX6_bar_35 (by decide) (fun hc35 => absurd hc35 (show ¬ (1 : Int32) = 0 by decide)) (fun hc35 => ?_)
  refine MW.iconst (v := 0) dX6_bar_38 (by decide) ?_
  exact MW.ireturn dX6_bar_39 rfl (rfl) rt_r
set_option maxHeartbeats 2000000 in
theorem m_bar_2 {k : Nat} (hk : i 17 = nI k) (hk8 : k ≤ 8) {j : Nat} (hj : j < k) (h2 : ¬ a 17 j = -1) : MC (En l D t b L xs) MX6_bar 20 [.ref (q 18), .int (nI j)] (hw t q i a w) mc ms (rt (some (.int 0)) (hw t q (upd i 18 2) a w) mc ms) := by
  show MW _ _ _ 0 [some (.ref (q 18)), some (.int (nI j)), none, none, none, none, none] [] _ _ _ _
  refine MW.aload_n dX6_bar_0 rfl ?_
  refine MW.aload_n dX6_bar_1 rfl ?_
  refine MW.iload_n dX6_bar_2 rfl ?_
  refine MW.callV1 fX6_bar_3 18 rfl (m_isPallet) rfl rfl rfl rfl (Nat.le_of_ble_eq_true rfl) ?_
  refine MW.if_ne 13 dX6_bar_6 (by decide) (fun hc6 => ?_) (fun hc6 => absurd hc6 (fun z => zz z ⟨nI_pos' (by omega), by rw [hk]; exact nI_lt hj (by omega)⟩))
  refine MW.aload_n dX6_bar_13 rfl ?_
  refine MW.getf fX6_bar_14 18 rfl rfl ?_
  refine MW.iload_n dX6_bar_17 rfl ?_
  refine MW.iaj dX6_bar_18 26 0 rfl rfl (show j < 8 by omega) (by decide) ?_
  refine MW.iconst (v := -1) dX6_bar_19 (by decide) ?_
  refine MW.icmp_eq 27 dX6_bar_20 (by decide) (fun hc20 => absurd hc20 h2) (fun hc20 => ?_)
  refine MW.iconst (v := 2) dX6_bar_23 (by decide) ?_
  refine MW.goto 28 dX6_bar_24 (by decide) ?_
  refine MW.putf fX6_bar_28 18 rfl (rfl) (rfl) rfl ?_
  refine MW.heap hw_s6_8 ?_
  refine MW.aload_n dX6_bar_31 rfl ?_
  refine MW.getf fX6_bar_32 18 rfl rfl ?_
  refine MW.if_eq 40 dX6_bar_35 (by decide) (fun hc35 => absurd hc35 (show ¬ (2 : Int32) = 0 by decide)) (fun hc35 => ?_)
  refine MW.iconst (v := 0) dX6_bar_38 (by decide) ?_
  exact MW.ireturn dX6_bar_39 rfl (rfl) rt_r
set_option maxHeartbeats 2000000 in
theorem m_bar_ok {k : Nat} (hk : i 17 = nI k) (hk8 : k ≤ 8) {n : Nat} (hn : i 12 = nI n) (hn12 : n ≤ 12) {j : Nat} (hj : j < k) (h2 : a 17 j = -1) : MC (En l D t b L xs) MX6_bar 20 [.ref (q 18), .int (nI j)] (hw t q i a w) mc ms (rt (some (.int (sfd (fun u => ¬ leP (upd i 18 0) a k n j u) 0 6 1))) (hw t q (upd i 18 0) a w) mc ms) := by
  show MW _ _ _ 0 [some (.ref (q 18)), some (.int (nI j)), none, none, none, none, none] [] _ _ _ _
  refine MW.aload_n dX6_bar_0 rfl ?_
  refine MW.aload_n dX6_bar_1 rfl ?_
  refine MW.iload_n dX6_bar_2 rfl ?_
  refine MW.callV1 fX6_bar_3 18 rfl (m_isPallet) rfl rfl rfl rfl (Nat.le_of_ble_eq_true rfl) ?_
  refine MW.if_ne 13 dX6_bar_6 (by decide) (fun hc6 => ?_) (fun hc6 => absurd hc6 (fun z => zz z ⟨nI_pos' (by omega), by rw [hk]; exact nI_lt hj (by omega)⟩))
  refine MW.aload_n dX6_bar_13 rfl ?_
  refine MW.getf fX6_bar_14 18 rfl rfl ?_
  refine MW.iload_n dX6_bar_17 rfl ?_
  refine MW.iaj dX6_bar_18 26 0 rfl rfl (show j < 8 by omega) (by decide) ?_
  refine MW.iconst (v := -1) dX6_bar_19 (by decide) ?_
  refine MW.icmp_eq 27 dX6_bar_20 (by decide) (fun hc20 => ?_) (fun hc20 => absurd h2 hc20)
  refine MW.iconst (v := 0) dX6_bar_27 (by decide) ?_
  refine MW.putf fX6_bar_28 18 rfl (rfl) (rfl) rfl ?_
  refine MW.heap hw_s6_8 ?_
  refine MW.aload_n dX6_bar_31 rfl ?_
  refine MW.getf fX6_bar_32 18 rfl rfl ?_
  refine MW.if_eq 40 dX6_bar_35 (by decide) (fun hc35 => ?_) (fun hc35 => absurd (show (0 : Int32) = 0 from rfl) hc35)
  refine MW.iconst (v := 1) dX6_bar_40 (by decide) ?_
  refine MW.istore_n dX6_bar_41 rfl rfl ?_
  exact lr_42 (i := (upd i 18 0)) hk hk8 hn hn12 (show j < 8 by omega) 6 1 _ _ _ _ (by omega) rfl
end Model8
