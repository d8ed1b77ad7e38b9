section Model2
variable {l : Launch} {D : va_G} {t : ty4} {b L : Nat} {xs : Nat → Int32} {q : Nat → Nat} {i : Nat → Int32} {a : Nat → Nat → Int32} {w : Int64} {d mc ms : Nat}
theorem m_ko {k : Nat} (hk : i 17 = nI k) (hk8 : k ≤ 8) {j : Nat} (hj : j < 8) {m : Nat} (hm : m < 12) : ∀ (u : Nat), 1 ≤ u → u ≤ 5 → MC (En l D t b L xs) MX6_keepsOff d [.ref (q 18), .int (nI u), .int (nI j), .int (nI m)] (hw t q i a w) mc ms (rt (some (.int (bI (ko a k j (nI m) u)))) (hw t q i a w) mc ms)
  | 0, h, _ => absurd h (by omega)
  | 1, _, _ => m_ko1 hk hk8 hj
  | 2, _, _ => m_ko2 hj hm
  | 3, _, _ => m_ko3 hj hm
  | 4, _, _ => m_ko4 hk hk8 hj
  | 5, _, _ => m_ko5 hk hk8 hj
  | u + 6, _, h => absurd h (by omega)
set_option maxHeartbeats 1000000 in
theorem m_axlesBearAt {k : Nat} (hk : i 17 = nI k) (hk8 : k ≤ 8) {j : Nat} (hj : j < 8) {c : Int32} : MC (En l D t b L xs) MX6_axlesBearAt (d + 2) [.ref (q 18), .int (nI j), .int c] (hw t q i a w) mc ms (rt (some (.int (bI (brM i (a 12) (upd (a 17) j c) k)))) (hw t q i a w) mc ms) := by
  show MW _ _ _ 0 [some (.ref (q 18)), some (.int (nI j)), some (.int c), none, none] [] _ _ _ _
  refine MW.aload_n dX6_axlesBearAt_0 rfl ?_
  refine MW.getf fX6_axlesBearAt_1 18 rfl rfl ?_
  refine MW.iload_n dX6_axlesBearAt_4 rfl ?_
  refine MW.iaj dX6_axlesBearAt_5 26 0 rfl rfl hj (by decide) ?_
  refine MW.istore_n dX6_axlesBearAt_6 rfl rfl ?_
  refine MW.aload_n dX6_axlesBearAt_7 rfl ?_
  refine MW.getf fX6_axlesBearAt_8 18 rfl rfl ?_
  refine MW.iload_n dX6_axlesBearAt_11 rfl ?_
  refine MW.iload_n dX6_axlesBearAt_12 rfl ?_
  refine MW.isj dX6_axlesBearAt_13 26 0 rfl rfl hj (by decide) ?_
  refine MW.heap hw_a26 ?_
  refine MW.aload_n dX6_axlesBearAt_14 rfl ?_
  refine MW.callV1 fX6_axlesBearAt_15 18 rfl (m_axlesBear (a := (au a 17 (upd (a 17) j c))) hk hk8) rfl rfl rfl rfl (Nat.le_of_ble_eq_true rfl) ?_
  refine MW.top (v' := .int (bI (brM i (a 12) (upd (a 17) j c) k))) rfl ?_
  refine MW.istore dX6_axlesBearAt_18 rfl rfl ?_
  refine MW.aload_n dX6_axlesBearAt_20 rfl ?_
  refine MW.getf fX6_axlesBearAt_21 18 rfl rfl ?_
  refine MW.iload_n dX6_axlesBearAt_24 rfl ?_
  refine MW.iload_n dX6_axlesBearAt_25 rfl ?_
  refine MW.isj dX6_axlesBearAt_26 26 0 rfl rfl hj (by decide) ?_
  refine MW.heap hw_a26 ?_
  refine MW.heap (h' := hw t q i a w) (by show hw t q i (au (au a 17 (upd (a 17) j c)) 17 (upd (au a 17 (upd (a 17) j c) 17) j (a 17 j))) w = _; rw [au_au, au_at, upd_upd, upd_self, au_self]) ?_
  refine MW.iload dX6_axlesBearAt_27 rfl ?_
  exact MW.ireturn dX6_axlesBearAt_29 rfl (nar_b (bI_01 _)) rt_r
set_option maxHeartbeats 2000000 in
theorem lm_bars {k : Nat} (hk : i 17 = nI k) (hk8 : k ≤ 8) {j : Nat} (hj : j < 8) {m : Nat} (hm : m < 12) : ∀ (r u : Nat), u + r = 6 → 1 ≤ u → sfd (ko a k j (nI m)) (cI (brM i (a 12) (upd (a 17) j (nI m)) k) 0 6) r u = sfd (ko a k j (nI m)) (cI (brM i (a 12) (upd (a 17) j (nI m)) k) 0 6) 5 1 → MW (En l D t b L xs) MX6_bars (d + 3) 2 [some (.ref (q 18)), some (.int (nI j)), some (.int (nI m)), some (.int (nI u))] [] (hw t q i a w) mc ms (rt (some (.int (sfd (ko a k j (nI m)) (cI (brM i (a 12) (upd (a 17) j (nI m)) k) 0 6) 5 1))) (hw t q i a w) mc ms) := by
  intro r
  induction r with
  | zero =>
    intro u hr hu hI
    refine MW.iload_n dX6_bars_2 rfl ?_
    refine MW.iconst (v := 5) dX6_bars_3 (by decide) ?_
    refine MW.icmp_gt 25 dX6_bars_4 (by decide) (fun hc4 => ?_) (fun hc4 => absurd (show (5 : Int32) < nI u from nI_lt (a := 5) (by omega) (by omega)) hc4)
    refine MW.aload_n dX6_bars_25 rfl ?_
    refine MW.iload_n dX6_bars_26 rfl ?_
    refine MW.iload_n dX6_bars_27 rfl ?_
    refine MW.callV1 fX6_bars_28 18 rfl (m_axlesBearAt hk hk8 hj) rfl rfl rfl rfl (Nat.le_of_ble_eq_true rfl) ?_
    refine MW.if_eq 38 dX6_bars_31 (by decide) (fun hc31 => ?_) (fun hc31 => ?_)
    · skip
      refine MW.bipush (v := 6) dX6_bars_38 (by decide) ?_
      exact MW.ireturn dX6_bars_40 rfl (rfl) (rt_e (by rw [← hI]; first | exact cI_t (nz hc31) | exact cI_f (zz hc31)))
    · skip
      refine MW.iconst (v := 0) dX6_bars_34 (by decide) ?_
      refine MW.goto 40 dX6_bars_35 (by decide) ?_
      exact MW.ireturn dX6_bars_40 rfl (rfl) (rt_e (by rw [← hI]; first | exact cI_t (nz hc31) | exact cI_f (zz hc31)))
  | succ r ih =>
    intro u hr hu hI
    refine MW.iload_n dX6_bars_2 rfl ?_
    refine MW.iconst (v := 5) dX6_bars_3 (by decide) ?_
    refine MW.icmp_gt 25 dX6_bars_4 (by decide) (fun hc4 => absurd hc4 (show ¬ (5 : Int32) < nI u from nI_nlt (a := 5) (b := u) (by omega) (by omega) |> fun z => z)) (fun hc4 => ?_)
    refine MW.aload_n dX6_bars_7 rfl ?_
    refine MW.iload_n dX6_bars_8 rfl ?_
    refine MW.iload_n dX6_bars_9 rfl ?_
    refine MW.iload_n dX6_bars_10 rfl ?_
    refine MW.callV1 fX6_bars_11 18 rfl (m_ko hk hk8 hj hm u hu (by omega)) rfl rfl rfl rfl (Nat.le_of_ble_eq_true rfl) ?_
    refine MW.if_eq 19 dX6_bars_14 (by decide) (fun hc14 => ?_) (fun hc14 => ?_)
    · skip
      refine MW.iincj dX6_bars_19 rfl rfl rfl ?_
      refine MW.goto 2 dX6_bars_22 (by decide) ?_
      exact ih (u + 1) (by omega) (by omega) (by rw [← hI]; exact (cI_f (zz hc14)).symm)
    · skip
      refine MW.iload_n dX6_bars_17 rfl ?_
      exact MW.ireturn dX6_bars_18 rfl (rfl) (rt_e (by rw [← hI]; exact cI_t (nz hc14)))
theorem m_bars {k : Nat} (hk : i 17 = nI k) (hk8 : k ≤ 8) {j : Nat} (hj : j < 8) {m : Nat} (hm : m < 12) : MC (En l D t b L xs) MX6_bars (d + 3) [.ref (q 18), .int (nI j), .int (nI m)] (hw t q i a w) mc ms (rt (some (.int (sfd (ko a k j (nI m)) (cI (brM i (a 12) (upd (a 17) j (nI m)) k) 0 6) 5 1))) (hw t q i a w) mc ms) := by
  show MW _ _ _ 0 [some (.ref (q 18)), some (.int (nI j)), some (.int (nI m)), none] [] _ _ _ _
  refine MW.iconst (v := 1) dX6_bars_0 (by decide) ?_
  refine MW.istore_n dX6_bars_1 rfl rfl ?_
  exact lm_bars hk hk8 hj hm 5 1 (by omega) (by omega) rfl
/-- the reference's isLeft -/
def ilP (i : Nat → Int32) (a : Nat → Nat → Int32) (k j m u : Nat) : Prop := (u = 6 ∧ brM i (a 12) (upd (a 17) j (nI m)) k) ∨ (u ≠ 6 ∧ ¬ ko a k j (nI m) u)
theorem m_isLeft {k : Nat} (hk : i 17 = nI k) (hk8 : k ≤ 8) {j : Nat} (hj : j < 8) {m : Nat} (hm : m < 12) {u : Nat} (hu1 : 1 ≤ u) (hu6 : u ≤ 6) : MC (En l D t b L xs) MX6_isLeft (d + 3) [.ref (q 18), .int (nI u), .int (nI j), .int (nI m)] (hw t q i a w) mc ms (rt (some (.int (bI (ilP i a k j m u)))) (hw t q i a w) mc ms) := by
  have h6 : nI u = 6 → u = 6 := fun z => (nI_eq (b := 6) (by omega) (by omega)).mp z
  show MW _ _ _ 0 [some (.ref (q 18)), some (.int (nI u)), some (.int (nI j)), some (.int (nI m))] [] _ _ _ _
  refine MW.iload_n dX6_isLeft_0 rfl ?_
  refine MW.bipush (v := 6) dX6_isLeft_1 (by decide) ?_
  refine MW.icmp_ne 15 dX6_isLeft_3 (by decide) (fun hc3 => ?_) (fun hc3 => ?_)
  · skip
    refine MW.aload_n dX6_isLeft_15 rfl ?_
    refine MW.iload_n dX6_isLeft_16 rfl ?_
    refine MW.iload_n dX6_isLeft_17 rfl ?_
    refine MW.iload_n dX6_isLeft_18 rfl ?_
    refine MW.callV1 fX6_isLeft_19 18 rfl (m_ko hk hk8 hj hm u hu1 (by have hz : u ≠ 6 := fun z => hc3 (by rw [z]; rfl); omega)) rfl rfl rfl rfl (Nat.le_of_ble_eq_true rfl) ?_
    refine MW.if_ne 29 dX6_isLeft_22 (by decide) (fun hc22 => ?_) (fun hc22 => ?_)
    · skip
      refine MW.iconst (v := 0) dX6_isLeft_29 (by decide) ?_
      exact MW.ireturn dX6_isLeft_30 rfl (by first | rfl | exact nar_b (bI_01 _)) (by first | exact rtb_t (Or.inr ⟨fun z => hc3 (by rw [z]; rfl), zz hc22⟩) | exact rtb_f (fun z => z.elim (fun y => hc3 (by rw [y.1]; rfl)) (fun y => y.2 (nz hc22))) | exact rt_e (bI_c ⟨fun z => z.elim (fun y => y.2) (fun y => absurd (h6 hc3) y.1), fun z => Or.inl ⟨h6 hc3, z⟩⟩))
    · skip
      refine MW.iconst (v := 1) dX6_isLeft_25 (by decide) ?_
      refine MW.goto 30 dX6_isLeft_26 (by decide) ?_
      exact MW.ireturn dX6_isLeft_30 rfl (by first | rfl | exact nar_b (bI_01 _)) (by first | exact rtb_t (Or.inr ⟨fun z => hc3 (by rw [z]; rfl), zz hc22⟩) | exact rtb_f (fun z => z.elim (fun y => hc3 (by rw [y.1]; rfl)) (fun y => y.2 (nz hc22))) | exact rt_e (bI_c ⟨fun z => z.elim (fun y => y.2) (fun y => absurd (h6 hc3) y.1), fun z => Or.inl ⟨h6 hc3, z⟩⟩))
  · skip
    refine MW.aload_n dX6_isLeft_6 rfl ?_
    refine MW.iload_n dX6_isLeft_7 rfl ?_
    refine MW.iload_n dX6_isLeft_8 rfl ?_
    refine MW.callV1 fX6_isLeft_9 18 rfl (m_axlesBearAt hk hk8 hj) rfl rfl rfl rfl (Nat.le_of_ble_eq_true rfl) ?_
    refine MW.goto 30 dX6_isLeft_12 (by decide) ?_
    exact MW.ireturn dX6_isLeft_30 rfl (by first | rfl | exact nar_b (bI_01 _)) (by first | exact rtb_t (Or.inr ⟨fun z => hc3 (by rw [z]; rfl), zz hc22⟩) | exact rtb_f (fun z => z.elim (fun y => hc3 (by rw [y.1]; rfl)) (fun y => y.2 (nz hc22))) | exact rt_e (bI_c ⟨fun z => z.elim (fun y => y.2) (fun y => absurd (h6 hc3) y.1), fun z => Or.inl ⟨h6 hc3, z⟩⟩))
/-- the candidates of a pallet: the cells in order, none, and the end -/
def cd (n c : Nat) : Int32 := if c < n then nI c else if c = n then -1 else 100
theorem cd_lt {n c : Nat} (h : c < n) : cd n c = nI c := if_pos h
theorem cd_n {n : Nat} : cd n n = -1 := by unfold cd; rw [if_neg (Nat.lt_irrefl n), if_pos rfl]
theorem cd_e {n : Nat} : cd n (n + 1) = 100 := by unfold cd; rw [if_neg (by omega), if_neg (by omega)]
theorem nI_m1 {m : Nat} (h : m < 2 ^ 31) : ¬ nI m = -1 := fun z => by have h9 := nI_pos (n := m) h; rw [z] at h9; exact h9 (by decide)
theorem m_nextPlace {n : Nat} (hn : i 12 = nI n) (hn12 : n ≤ 12) {c : Nat} (hc : c ≤ n) : MC (En l D t b L xs) MX6_nextPlace d [.ref (q 18), .int (cd n c)] (hw t q i a w) mc ms (rt (some (.int (cd n (c + 1)))) (hw t q i a w) mc ms) := by
  rcases Nat.lt_or_ge c n with hlt | hge
  · rw [cd_lt hlt]
    show MW _ _ _ 0 [some (.ref (q 18)), some (.int (nI c))] [] _ _ _ _
    refine MW.iload_n dX6_nextPlace_0 rfl ?_
    refine MW.iconst (v := -1) dX6_nextPlace_1 (by decide) ?_
    refine MW.icmp_ne 10 dX6_nextPlace_2 (by decide) (fun hc2 => ?_) (fun hc2 => absurd hc2 (nI_m1 (by omega)))
    refine MW.iload_n dX6_nextPlace_10 rfl ?_
    refine MW.iconst (v := 1) dX6_nextPlace_11 (by decide) ?_
    refine MW.iadd dX6_nextPlace_12 ?_
    refine MW.top (v' := .int (nI (c + 1))) (by rw [nI_1]) ?_
    refine MW.aload_n dX6_nextPlace_13 rfl ?_
    refine MW.getf fX6_nextPlace_14 18 rfl rfl ?_
    refine MW.icmp_ge 26 dX6_nextPlace_17 (by decide) (fun hc17 => ?_) (fun hc17 => ?_)
    · skip
      refine MW.iconst (v := -1) dX6_nextPlace_26 (by decide) ?_
      exact MW.ireturn dX6_nextPlace_27 rfl (rfl) (rt_e (by first | exact cd_lt (by rw [hn] at hc17; exact (nI_ltI (by omega) (by omega)).mp (Int32.not_le.mp hc17)) | (have h9 : n ≤ c + 1 := (nI_leI (by omega) (by omega)).mp (by rw [hn] at hc17; exact hc17); rw [show c + 1 = n by omega, cd_n])))
    · skip
      refine MW.iload_n dX6_nextPlace_20 rfl ?_
      refine MW.iconst (v := 1) dX6_nextPlace_21 (by decide) ?_
      refine MW.iadd dX6_nextPlace_22 ?_
      refine MW.top (v' := .int (nI (c + 1))) (by rw [nI_1]) ?_
      refine MW.goto 27 dX6_nextPlace_23 (by decide) ?_
      exact MW.ireturn dX6_nextPlace_27 rfl (rfl) (rt_e (by first | exact cd_lt (by rw [hn] at hc17; exact (nI_ltI (by omega) (by omega)).mp (Int32.not_le.mp hc17)) | (have h9 : n ≤ c + 1 := (nI_leI (by omega) (by omega)).mp (by rw [hn] at hc17; exact hc17); rw [show c + 1 = n by omega, cd_n])))
  · obtain rfl : c = n := by omega
    rw [cd_n, cd_e]
    show MW _ _ _ 0 [some (.ref (q 18)), some (.int (-1))] [] _ _ _ _
    refine MW.iload_n dX6_nextPlace_0 rfl ?_
    refine MW.iconst (v := -1) dX6_nextPlace_1 (by decide) ?_
    refine MW.icmp_ne 10 dX6_nextPlace_2 (by decide) (fun hc2 => absurd rfl hc2) (fun hc2 => ?_)
    refine MW.bipush (v := 100) dX6_nextPlace_5 (by decide) ?_
    refine MW.goto 27 dX6_nextPlace_7 (by decide) ?_
    exact MW.ireturn dX6_nextPlace_27 rfl (rfl) rt_r
/-- a pallet fits into a cell, axles apart -/
def ftP (a : Nat → Nat → Int32) (k j m : Nat) : Prop := ∀ u, 1 ≤ u → u ≤ 5 → ¬ ko a k j (nI m) u
set_option maxHeartbeats 2000000 in
theorem lm_fits2 {k : Nat} (hk : i 17 = nI k) (hk8 : k ≤ 8) {j : Nat} (hj : j < 8) {m : Nat} (hm : m < 12) : ∀ (r u : Nat), u + r = 6 → 1 ≤ u → (∀ v, 1 ≤ v → v < u → ¬ ko a k j (nI m) v) → MW (En l D t b L xs) MX6_fits (d + 1) 41 [some (.ref (q 18)), some (.int (nI j)), some (.int (nI m)), some (.int (nI u))] [] (hw t q i a w) mc ms (rt (some (.int (bI (ftP a k j m)))) (hw t q i a w) mc ms) := by
  intro r
  induction r with
  | zero =>
    intro u hr hu hI
    refine MW.iload_n dX6_fits_41 rfl ?_
    refine MW.iconst (v := 5) dX6_fits_42 (by decide) ?_
    refine MW.icmp_gt 64 dX6_fits_43 (by decide) (fun hc43 => ?_) (fun hc43 => absurd (show (5 : Int32) < nI u from nI_lt (a := 5) (by omega) (by omega)) hc43)
    refine MW.iconst (v := 1) dX6_fits_64 (by decide) ?_
    exact MW.ireturn dX6_fits_65 rfl (rfl) (rtb_t (fun v h1 h2 => hI v h1 (by omega)))
  | succ r ih =>
    intro u hr hu hI
    refine MW.iload_n dX6_fits_41 rfl ?_
    refine MW.iconst (v := 5) dX6_fits_42 (by decide) ?_
    refine MW.icmp_gt 64 dX6_fits_43 (by decide) (fun hc43 => absurd hc43 (show ¬ (5 : Int32) < nI u from nI_nlt (a := 5) (b := u) (by omega) (by omega) |> fun z => z)) (fun hc43 => ?_)
    refine MW.aload_n dX6_fits_46 rfl ?_
    refine MW.iload_n dX6_fits_47 rfl ?_
    refine MW.iload_n dX6_fits_48 rfl ?_
    refine MW.iload_n dX6_fits_49 rfl ?_
    refine MW.callV1 fX6_fits_50 18 rfl (m_ko hk hk8 hj hm u hu (by omega)) rfl rfl rfl rfl (Nat.le_of_ble_eq_true rfl) ?_
    refine MW.if_eq 58 dX6_fits_53 (by decide) (fun hc53 => ?_) (fun hc53 => ?_)
    · skip
      refine MW.iincj dX6_fits_58 rfl rfl rfl ?_
      refine MW.goto 41 dX6_fits_61 (by decide) ?_
      exact ih (u + 1) (by omega) (by omega) (fun v h1 h2 => by
        rcases Nat.lt_or_ge v u with h3 | h3
        · exact hI v h1 h3
        · rw [show v = u by omega]; exact zz hc53)
    · skip
      refine MW.iconst (v := 0) dX6_fits_56 (by decide) ?_
      exact MW.ireturn dX6_fits_57 rfl (rfl) (rtb_f (fun z => z u hu (by omega) (nz hc53)))
set_option maxHeartbeats 2000000 in
theorem lm_fits1 {k : Nat} (hk : i 17 = nI k) (hk8 : k ≤ 8) {j : Nat} (hj : j < 8) {m : Nat} (hm : m < 12) (hinv : ∀ p, j < p → p < k → a 17 p = -1) : ∀ (r p : Nat), p + r = k → j < p → MW (En l D t b L xs) MX6_fits (d + 1) 18 [some (.ref (q 18)), some (.int (nI j)), some (.int (nI m)), some (.int (nI p))] [] (hw t q i a w) mc ms (rt (some (.int (bI (ftP a k j m)))) (hw t q i a w) mc ms) := by
  intro r
  induction r with
  | zero =>
    intro p hr hp
    refine MW.iload_n dX6_fits_18 rfl ?_
    refine MW.aload_n dX6_fits_19 rfl ?_
    refine MW.getf fX6_fits_20 18 rfl rfl ?_
    refine MW.icmp_ge 39 dX6_fits_23 (by decide) (fun hc23 => ?_) (fun hc23 => absurd (show i 17 ≤ nI p by rw [hk]; exact nI_le (by omega) (by omega)) hc23)
    refine MW.iconst (v := 1) dX6_fits_39 (by decide) ?_
    refine MW.istore_n dX6_fits_40 rfl rfl ?_
    exact lm_fits2 hk hk8 hj hm 5 1 (by omega) (by omega) (fun v h1 h2 => absurd h2 (by omega))
  | succ r ih =>
    intro p hr hp
    have hp8 : p < 8 := by omega
    refine MW.iload_n dX6_fits_18 rfl ?_
    refine MW.aload_n dX6_fits_19 rfl ?_
    refine MW.getf fX6_fits_20 18 rfl rfl ?_
    refine MW.icmp_ge 39 dX6_fits_23 (by decide) (fun hc23 => absurd hc23 (show ¬ i 17 ≤ nI p by rw [hk]; exact nI_ge (by omega) (by omega))) (fun hc23 => ?_)
    refine MW.aload_n dX6_fits_26 rfl ?_
    refine MW.getf fX6_fits_27 18 rfl rfl ?_
    refine MW.iload_n dX6_fits_30 rfl ?_
    refine MW.iconst (v := -1) dX6_fits_31 (by decide) ?_
    refine MW.isj dX6_fits_32 26 0 rfl rfl hp8 (by decide) ?_
    refine MW.heap hw_a26 ?_
    refine MW.heap (h' := hw t q i a w) (by rw [← hinv p hp (by omega), upd_self, au_self]) ?_
    refine MW.iincj dX6_fits_33 rfl rfl rfl ?_
    refine MW.goto 18 dX6_fits_36 (by decide) ?_
    exact ih (p + 1) (by omega) (by omega)
set_option maxHeartbeats 1000000 in
theorem m_fits {k : Nat} (hk : i 17 = nI k) (hk8 : k ≤ 8) {j : Nat} (hj : j < 8) (hjk : j < k) {m : Nat} (hm : m < 12) (hwj : a 17 j = nI m) (hinv : ∀ p, j < p → p < k → a 17 p = -1) : MC (En l D t b L xs) MX6_fits (d + 1) [.ref (q 18), .int (nI j)] (hw t q i a w) mc ms (rt (some (.int (bI (ftP a k j m)))) (hw t q i a w) mc ms) := by
  show MW _ _ _ 0 [some (.ref (q 18)), some (.int (nI j)), none, none] [] _ _ _ _
  refine MW.aload_n dX6_fits_0 rfl ?_
  refine MW.getf fX6_fits_1 18 rfl rfl ?_
  refine MW.iload_n dX6_fits_4 rfl ?_
  refine MW.iaj dX6_fits_5 26 0 rfl rfl hj (by decide) ?_
  refine MW.top (v' := .int (nI m)) (by rw [hwj]) ?_
  refine MW.istore_n dX6_fits_6 rfl rfl ?_
  refine MW.iload_n dX6_fits_7 rfl ?_
  refine MW.iconst (v := -1) dX6_fits_8 (by decide) ?_
  refine MW.icmp_ne 14 dX6_fits_9 (by decide) (fun hc9 => ?_) (fun hc9 => absurd hc9 (nI_m1 (by omega)))
  refine MW.iload_n dX6_fits_14 rfl ?_
  refine MW.iconst (v := 1) dX6_fits_15 (by decide) ?_
  refine MW.iadd dX6_fits_16 ?_
  refine MW.top (v' := .int (nI (j + 1))) (by rw [nI_1]) ?_
  refine MW.istore_n dX6_fits_17 rfl rfl ?_
  exact lm_fits1 hk hk8 hj hm hinv (k - (j + 1)) (j + 1) (by omega) (by omega)
theorem m_fits1 {j : Nat} (hj : j < 8) (hwj : a 17 j = -1) : MC (En l D t b L xs) MX6_fits d [.ref (q 18), .int (nI j)] (hw t q i a w) mc ms (rt (some (.int 1)) (hw t q i a w) mc ms) := by
  show MW _ _ _ 0 [some (.ref (q 18)), some (.int (nI j)), none, none] [] _ _ _ _
  refine MW.aload_n dX6_fits_0 rfl ?_
  refine MW.getf fX6_fits_1 18 rfl rfl ?_
  refine MW.iload_n dX6_fits_4 rfl ?_
  refine MW.iaj dX6_fits_5 26 0 rfl rfl hj (by decide) ?_
  refine MW.top (v' := .int (-1)) (by rw [hwj]) ?_
  refine MW.istore_n dX6_fits_6 rfl rfl ?_
  refine MW.iload_n dX6_fits_7 rfl ?_
  refine MW.iconst (v := -1) dX6_fits_8 (by decide) ?_
  refine MW.icmp_ne 14 dX6_fits_9 (by decide) (fun hc9 => absurd rfl hc9) (fun hc9 => ?_)
  refine MW.iconst (v := 1) dX6_fits_12 (by decide) ?_
  exact MW.ireturn dX6_fits_13 rfl (rfl) rt_r
end Model2
