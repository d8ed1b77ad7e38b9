/-- the pallet j has a cell high and cold enough -/
def fsP (a : Nat → Nat → Int32) (n j : Nat) : Prop := ∃ m, m < n ∧ ¬ (a 0 m < a 6 j) ∧ ¬ (¬ a 3 j = 0 ∧ a 1 m = 0)
/-- how many of the first n are P -/
noncomputable def psn (p : Nat → Prop) : Nat → Int32
  | 0 => 0
  | n + 1 => cI (p n) (psn p n + 1) (psn p n)
/-- the farthest of what bars, from the cell c on -/
def bfa (f : Nat → Int32) : Nat → Nat → Int32 → Int32
  | 0, _, x => x
  | r + 1, c, x => if f c = 0 then 0 else bfa f r (c + 1) (if x < f c then f c else x)
/-- the first of r from j on that is P, else -1 -/
noncomputable def sfr (p : Nat → Prop) : Nat → Nat → Int32
  | 0, _ => -1
  | r + 1, j => cI (p j) (nI j) (sfr p r (j + 1))
/-- from the doors on: the x-th cell c with g c not below 0 -/
def fdr (g : Nat → Int32) (x : Int32) : Nat → Int32 → Int32
  | 0, _ => -1
  | c + 1, y => if g c < 0 then fdr g x c y else if y = x then g c else fdr g x c (y + 1)
def tko (wh : Nat → Int32) (j : Nat) : Nat → Int32 := fun m => if m < j then -1 else wh m
theorem tko_0 {wh : Nat → Int32} : tko wh 0 = wh := by funext m; simp [tko]
theorem tko_s {wh : Nat → Int32} {j : Nat} : upd (tko wh j) j (-1) = tko wh (j + 1) := by
  funext m
  by_cases h1 : m = j
  · subst h1; simp [upd, tko]
  · by_cases h2 : m < j
    · simp [upd, tko, h1, h2, show m < j + 1 by omega]
    · simp [upd, tko, h1, h2, show ¬ m < j + 1 by omega]
/-- the first of r cells from c on that is P -/
noncomputable def pfo (p : Nat → Prop) : Nat → Nat → Option Nat
  | 0, _ => none
  | r + 1, c => @ite (Option Nat) (p c) (Classical.propDecidable (p c)) (some c) (pfo p r (c + 1))
theorem pfo_t {p : Nat → Prop} {r c : Nat} (h : p c) : pfo p (r + 1) c = some c := if_pos h
theorem pfo_f {p : Nat → Prop} {r c : Nat} (h : ¬ p c) : pfo p (r + 1) c = pfo p r (c + 1) := if_neg h
theorem pfo_le {p : Nat → Prop} : ∀ {r c x : Nat}, pfo p r c = some x → c ≤ x ∧ x < c + r ∧ p x := by
  intro r
  induction r with
  | zero => intro c x h; cases h
  | succ r ih =>
    intro c x h
    by_cases hp : p c
    · rw [pfo_t hp] at h
      cases h
      exact ⟨Nat.le_refl _, by omega, hp⟩
    · rw [pfo_f hp] at h
      obtain ⟨h1, h2, h3⟩ := ih h
      exact ⟨by omega, by omega, h3⟩
/-- the cell behind it, or the same again -/
def pfv (o : Option Nat) (x : Nat) : Nat := match o with
  | some c => c + 1
  | none => x
/-- where the pallets are then -/
def pfw (o : Option Nat) (wh : Nat → Int32) (j : Nat) : Nat → Int32 := match o with
  | some c => upd wh j (nI c)
  | none => wh
section Load3
variable {l : Launch} {D : va_G} {t : ty4} {b L : Nat} {xs : Nat → Int32} {q : Nat → Nat} {i : Nat → Int32} {a : Nat → Nat → Int32} {w : Int64} {d mc ms : Nat}
set_option maxHeartbeats 2000000 in
theorem l_fits {n : Nat} (hn : i 2 = nI n) (hn12 : n ≤ 12) {j : Nat} (hj : j < 8) : ∀ (r m : Nat), m + r = n → (∀ x, x < m → ¬ (¬ (a 0 x < a 6 j) ∧ ¬ (¬ a 3 j = 0 ∧ a 1 x = 0))) → MW (En l D t b L xs) MX1_fitsSomeCell (d + 2) 2 [some (.ref (q 1)), some (.ref (q (6 + j))), some (.int (nI m))] [] (hw t q i a w) mc ms (rt (some (.int (bI (fsP a n j)))) (hw t q i a w) mc ms) := by
  intro r
  induction r with
  | zero =>
    intro m hr hI
    refine MW.iload_n dX1_fitsSomeCell_2 rfl ?_
    refine MW.aload_n dX1_fitsSomeCell_3 rfl ?_
    refine MW.getf fX1_fitsSomeCell_4 1 rfl rfl ?_
    refine MW.icmp_ge 36 dX1_fitsSomeCell_7 (by decide) (fun hc7 => ?_) (fun hc7 => absurd (show i 2 ≤ nI m by rw [hn]; exact nI_le (by omega) (by omega)) hc7)
    refine MW.iconst (v := 0) dX1_fitsSomeCell_36 (by decide) ?_
    exact MW.ireturn dX1_fitsSomeCell_37 rfl (rfl) (rtb_f (fun ⟨x, h1, h2⟩ => hI x (by omega) h2))
  | succ r ih =>
    intro m hr hI
    have hm : m < n := by omega
    refine MW.iload_n dX1_fitsSomeCell_2 rfl ?_
    refine MW.aload_n dX1_fitsSomeCell_3 rfl ?_
    refine MW.getf fX1_fitsSomeCell_4 1 rfl rfl ?_
    refine MW.icmp_ge 36 dX1_fitsSomeCell_7 (by decide) (fun hc7 => absurd hc7 (show ¬ i 2 ≤ nI m by rw [hn]; exact nI_ge (by omega) (by omega))) (fun hc7 => ?_)
    refine MW.aload_n dX1_fitsSomeCell_10 rfl ?_
    refine MW.aload_n dX1_fitsSomeCell_11 rfl ?_
    refine MW.iload_n dX1_fitsSomeCell_12 rfl ?_
    refine MW.callV1 fX1_fitsSomeCell_13 1 rfl (c_heightBars hn hn12 hj hm) rfl rfl rfl rfl (Nat.le_of_ble_eq_true rfl) ?_
    refine MW.if_ne 30 dX1_fitsSomeCell_16 (by decide) (fun hc16 => ?_) (fun hc16 => ?_)
    · skip
      refine MW.iincj dX1_fitsSomeCell_30 rfl rfl rfl ?_
      refine MW.goto 2 dX1_fitsSomeCell_33 (by decide) ?_
      exact ih (m + 1) (by omega) (lt_s hI (fun z => by first | exact z.2 (nz (by assumption)) | exact z.1 (nz (by assumption))))
    · skip
      refine MW.aload_n dX1_fitsSomeCell_19 rfl ?_
      refine MW.aload_n dX1_fitsSomeCell_20 rfl ?_
      refine MW.iload_n dX1_fitsSomeCell_21 rfl ?_
      refine MW.callV1 fX1_fitsSomeCell_22 1 rfl (c_coldBars hn hn12 hj hm) rfl rfl rfl rfl (Nat.le_of_ble_eq_true rfl) ?_
      refine MW.if_ne 30 dX1_fitsSomeCell_25 (by decide) (fun hc25 => ?_) (fun hc25 => ?_)
      · skip
        refine MW.iincj dX1_fitsSomeCell_30 rfl rfl rfl ?_
        refine MW.goto 2 dX1_fitsSomeCell_33 (by decide) ?_
        exact ih (m + 1) (by omega) (lt_s hI (fun z => by first | exact z.2 (nz (by assumption)) | exact z.1 (nz (by assumption))))
      · skip
        refine MW.iconst (v := 1) dX1_fitsSomeCell_28 (by decide) ?_
        exact MW.ireturn dX1_fitsSomeCell_29 rfl (rfl) (rtb_t ⟨m, hm, zz hc16, zz hc25⟩)
theorem c_fitsSomeCell {n : Nat} (hn : i 2 = nI n) (hn12 : n ≤ 12) {j : Nat} (hj : j < 8) : MC (En l D t b L xs) MX1_fitsSomeCell (d + 2) [.ref (q 1), .ref (q (6 + j))] (hw t q i a w) mc ms (rt (some (.int (bI (fsP a n j)))) (hw t q i a w) mc ms) := by
  show MW _ _ _ 0 [some (.ref (q 1)), some (.ref (q (6 + j))), none] [] _ _ _ _
  refine MW.iconst (v := 0) dX1_fitsSomeCell_0 (by decide) ?_
  refine MW.istore_n dX1_fitsSomeCell_1 rfl rfl ?_
  exact l_fits hn hn12 hj n 0 (by omega) (fun m h => absurd h (by omega))
set_option maxHeartbeats 2000000 in
theorem l_pws {k : Nat} (hk : i 3 = nI k) (hk8 : k ≤ 8) {n : Nat} (hn : i 2 = nI n) (hn12 : n ≤ 12) : ∀ (r j : Nat), j + r = k → MW (En l D t b L xs) MX1_palletsWithSomeCell (d + 3) 4 [some (.ref (q 1)), some (.int (psn (fsP a n) j)), some (.int (nI j))] [] (hw t q i a w) mc ms (rt (some (.int (psn (fsP a n) k))) (hw t q i a w) mc ms) := by
  intro r
  induction r with
  | zero =>
    intro j hr
    refine MW.iload_n dX1_palletsWithSomeCell_4 rfl ?_
    refine MW.aload_n dX1_palletsWithSomeCell_5 rfl ?_
    refine MW.getf fX1_palletsWithSomeCell_6 1 rfl rfl ?_
    refine MW.icmp_ge 34 dX1_palletsWithSomeCell_9 (by decide) (fun hc9 => ?_) (fun hc9 => absurd (show i 3 ≤ nI j by rw [hk]; exact nI_le (by omega) (by omega)) hc9)
    refine MW.iload_n dX1_palletsWithSomeCell_34 rfl ?_
    exact MW.ireturn dX1_palletsWithSomeCell_35 rfl (rfl) (rt_e (by rw [show k = j by omega]))
  | succ r ih =>
    intro j hr
    have hj : j < 8 := by omega
    refine MW.iload_n dX1_palletsWithSomeCell_4 rfl ?_
    refine MW.aload_n dX1_palletsWithSomeCell_5 rfl ?_
    refine MW.getf fX1_palletsWithSomeCell_6 1 rfl rfl ?_
    refine MW.icmp_ge 34 dX1_palletsWithSomeCell_9 (by decide) (fun hc9 => absurd hc9 (show ¬ i 3 ≤ nI j by rw [hk]; exact nI_ge (by omega) (by omega))) (fun hc9 => ?_)
    refine MW.aload_n dX1_palletsWithSomeCell_12 rfl ?_
    refine MW.aload_n dX1_palletsWithSomeCell_13 rfl ?_
    refine MW.getf fX1_palletsWithSomeCell_14 1 rfl rfl ?_
    refine MW.iload_n dX1_palletsWithSomeCell_17 rfl ?_
    refine MW.row dX1_palletsWithSomeCell_18 hj ?_
    refine MW.callV1 fX1_palletsWithSomeCell_19 1 rfl (c_fitsSomeCell hn hn12 hj) rfl rfl rfl rfl (Nat.le_of_ble_eq_true rfl) ?_
    refine MW.if_eq 28 dX1_palletsWithSomeCell_22 (by decide) (fun hc22 => ?_) (fun hc22 => ?_)
    · skip
      refine MW.iincj dX1_palletsWithSomeCell_28 rfl rfl rfl ?_
      refine MW.goto 4 dX1_palletsWithSomeCell_31 (by decide) ?_
      refine MW.locs (lv' := [some (.ref (q 1)), some (.int (psn (fsP a n) (j + 1))), some (.int (nI (j + 1)))]) ?_ (ih (j + 1) (by omega))
      first
        | rw [show psn (fsP a n) (j + 1) = psn (fsP a n) j from cI_f (zz hc22)]; rfl
        | rw [show psn (fsP a n) (j + 1) = psn (fsP a n) j + 1 from cI_t (nz hc22)]; rfl
    · skip
      refine MW.iinc1 dX1_palletsWithSomeCell_25 rfl rfl rfl ?_
      refine MW.iincj dX1_palletsWithSomeCell_28 rfl rfl rfl ?_
      refine MW.goto 4 dX1_palletsWithSomeCell_31 (by decide) ?_
      refine MW.locs (lv' := [some (.ref (q 1)), some (.int (psn (fsP a n) (j + 1))), some (.int (nI (j + 1)))]) ?_ (ih (j + 1) (by omega))
      first
        | rw [show psn (fsP a n) (j + 1) = psn (fsP a n) j from cI_f (zz hc22)]; rfl
        | rw [show psn (fsP a n) (j + 1) = psn (fsP a n) j + 1 from cI_t (nz hc22)]; rfl
theorem c_palletsWithSomeCell {k : Nat} (hk : i 3 = nI k) (hk8 : k ≤ 8) {n : Nat} (hn : i 2 = nI n) (hn12 : n ≤ 12) : MC (En l D t b L xs) MX1_palletsWithSomeCell (d + 3) [.ref (q 1)] (hw t q i a w) mc ms (rt (some (.int (psn (fsP a n) k))) (hw t q i a w) mc ms) := by
  show MW _ _ _ 0 [some (.ref (q 1)), none, none] [] _ _ _ _
  refine MW.iconst (v := 0) dX1_palletsWithSomeCell_0 (by decide) ?_
  refine MW.istore_n dX1_palletsWithSomeCell_1 rfl rfl ?_
  refine MW.iconst (v := 0) dX1_palletsWithSomeCell_2 (by decide) ?_
  refine MW.istore_n dX1_palletsWithSomeCell_3 rfl rfl ?_
  exact l_pws hk hk8 hn hn12 k 0 (by omega)
set_option maxHeartbeats 2000000 in
theorem l_bfa {k : Nat} (hk : i 3 = nI k) (hk8 : k ≤ 8) {n : Nat} (hn : i 2 = nI n) (hn12 : n ≤ 12) {j : Nat} (hj : j < 8) : ∀ (r m : Nat) (x : Int32) (z : Option Value), m + r = n → bfa (fbx i a k j) r m x = bfa (fbx i a k j) n 0 1 → mi_nl [some (.ref (q 1)), some (.ref (q (6 + j))), some (.int x), some (.int (nI m)), z] 4 = true → MW (En l D t b L xs) MX1_barFromAllCells (d + 4) 4 [some (.ref (q 1)), some (.ref (q (6 + j))), some (.int x), some (.int (nI m)), z] [] (hw t q i a w) mc ms (rt (some (.int (bfa (fbx i a k j) n 0 1))) (hw t q i a w) mc ms) := by
  intro r
  induction r with
  | zero =>
    intro m x z hr hI hz
    refine MW.iload_n dX1_barFromAllCells_4 rfl ?_
    refine MW.aload_n dX1_barFromAllCells_5 rfl ?_
    refine MW.getf fX1_barFromAllCells_6 1 rfl rfl ?_
    refine MW.icmp_ge 40 dX1_barFromAllCells_9 (by decide) (fun hc9 => ?_) (fun hc9 => absurd (show i 2 ≤ nI m by rw [hn]; exact nI_le (by omega) (by omega)) hc9)
    refine MW.iload_n dX1_barFromAllCells_40 rfl ?_
    exact MW.ireturn dX1_barFromAllCells_41 rfl (rfl) (rt_e hI.symm)
  | succ r ih =>
    intro m x z hr hI hz
    have hm : m < n := by omega
    refine MW.iload_n dX1_barFromAllCells_4 rfl ?_
    refine MW.aload_n dX1_barFromAllCells_5 rfl ?_
    refine MW.getf fX1_barFromAllCells_6 1 rfl rfl ?_
    refine MW.icmp_ge 40 dX1_barFromAllCells_9 (by decide) (fun hc9 => absurd hc9 (show ¬ i 2 ≤ nI m by rw [hn]; exact nI_ge (by omega) (by omega))) (fun hc9 => ?_)
    refine MW.aload_n dX1_barFromAllCells_12 rfl ?_
    refine MW.aload_n dX1_barFromAllCells_13 rfl ?_
    refine MW.iload_n dX1_barFromAllCells_14 rfl ?_
    refine MW.callV1 fX1_barFromAllCells_15 1 rfl (c_firstBar hk hk8 hn hn12 hj hm) rfl rfl rfl rfl (Nat.le_of_ble_eq_true rfl) ?_
    refine MW.istore dX1_barFromAllCells_18 rfl rfl ?_
    refine MW.iload dX1_barFromAllCells_20 rfl ?_
    refine MW.if_ne 27 dX1_barFromAllCells_22 (by decide) (fun hc22 => ?_) (fun hc22 => ?_)
    · skip
      refine MW.iload_n dX1_barFromAllCells_27 rfl ?_
      refine MW.iload dX1_barFromAllCells_28 rfl ?_
      refine MW.mmax dX1_barFromAllCells_30 fX1_barFromAllCells_30 wm_max1 wm_i wm_max2 (Nat.le_of_ble_eq_true rfl) ?_
      refine MW.istore_n dX1_barFromAllCells_33 rfl rfl ?_
      refine MW.iincj dX1_barFromAllCells_34 rfl rfl rfl ?_
      refine MW.goto 4 dX1_barFromAllCells_37 (by decide) ?_
      exact ih (m + 1) _ _ (by omega) (by rw [← hI]; exact (if_neg hc22).symm) rfl
    · skip
      refine MW.iconst (v := 0) dX1_barFromAllCells_25 (by decide) ?_
      exact MW.ireturn dX1_barFromAllCells_26 rfl (rfl) (rt_e (by rw [← hI]; exact if_pos hc22))
theorem c_barFromAllCells {k : Nat} (hk : i 3 = nI k) (hk8 : k ≤ 8) {n : Nat} (hn : i 2 = nI n) (hn12 : n ≤ 12) {j : Nat} (hj : j < 8) : MC (En l D t b L xs) MX1_barFromAllCells (d + 4) [.ref (q 1), .ref (q (6 + j))] (hw t q i a w) mc ms (rt (some (.int (bfa (fbx i a k j) n 0 1))) (hw t q i a w) mc ms) := by
  show MW _ _ _ 0 [some (.ref (q 1)), some (.ref (q (6 + j))), none, none, none] [] _ _ _ _
  refine MW.iconst (v := 1) dX1_barFromAllCells_0 (by decide) ?_
  refine MW.istore_n dX1_barFromAllCells_1 rfl rfl ?_
  refine MW.iconst (v := 0) dX1_barFromAllCells_2 (by decide) ?_
  refine MW.istore_n dX1_barFromAllCells_3 rfl rfl ?_
  exact l_bfa hk hk8 hn hn12 hj n 0 1 none (by omega) rfl rfl
set_option maxHeartbeats 2000000 in
theorem l_sfr {k : Nat} (hk : i 3 = nI k) (hk8 : k ≤ 8) {s c : Int32} : ∀ (r j : Nat), j + r = k → sfr (fun m => a 7 m = c ∧ a 5 m = s) r j = sfr (fun m => a 7 m = c ∧ a 5 m = s) k 0 → MW (En l D t b L xs) MX1_standingFor d 2 [some (.ref (q 1)), some (.int s), some (.int c), some (.int (nI j))] [] (hw t q i a w) mc ms (rt (some (.int (sfr (fun m => a 7 m = c ∧ a 5 m = s) k 0))) (hw t q i a w) mc ms) := by
  intro r
  induction r with
  | zero =>
    intro j hr hI
    refine MW.iload_n dX1_standingFor_2 rfl ?_
    refine MW.aload_n dX1_standingFor_3 rfl ?_
    refine MW.getf fX1_standingFor_4 1 rfl rfl ?_
    refine MW.icmp_ge 44 dX1_standingFor_7 (by decide) (fun hc7 => ?_) (fun hc7 => absurd (show i 3 ≤ nI j by rw [hk]; exact nI_le (by omega) (by omega)) hc7)
    refine MW.iconst (v := -1) dX1_standingFor_44 (by decide) ?_
    exact MW.ireturn dX1_standingFor_45 rfl (rfl) (rt_e hI.symm)
  | succ r ih =>
    intro j hr hI
    have hj : j < 8 := by omega
    refine MW.iload_n dX1_standingFor_2 rfl ?_
    refine MW.aload_n dX1_standingFor_3 rfl ?_
    refine MW.getf fX1_standingFor_4 1 rfl rfl ?_
    refine MW.icmp_ge 44 dX1_standingFor_7 (by decide) (fun hc7 => absurd hc7 (show ¬ i 3 ≤ nI j by rw [hk]; exact nI_ge (by omega) (by omega))) (fun hc7 => ?_)
    refine MW.aload_n dX1_standingFor_10 rfl ?_
    refine MW.getf fX1_standingFor_11 1 rfl rfl ?_
    refine MW.iload_n dX1_standingFor_14 rfl ?_
    refine MW.row dX1_standingFor_15 hj ?_
    refine MW.pg5 fX1_standingFor_16 hj ?_
    refine MW.iload_n dX1_standingFor_19 rfl ?_
    refine MW.icmp_ne 38 dX1_standingFor_20 (by decide) (fun hc20 => ?_) (fun hc20 => ?_)
    · skip
      refine MW.iincj dX1_standingFor_38 rfl rfl rfl ?_
      refine MW.goto 2 dX1_standingFor_41 (by decide) ?_
      exact ih (j + 1) (by omega) (by rw [← hI]; exact (cI_f (fun z => by first | exact absurd z.1 (by assumption) | exact absurd z.2 (by assumption))).symm)
    · skip
      refine MW.aload_n dX1_standingFor_23 rfl ?_
      refine MW.getf fX1_standingFor_24 1 rfl rfl ?_
      refine MW.iload_n dX1_standingFor_27 rfl ?_
      refine MW.row dX1_standingFor_28 hj ?_
      refine MW.pg3 fX1_standingFor_29 hj ?_
      refine MW.iload_n dX1_standingFor_32 rfl ?_
      refine MW.icmp_ne 38 dX1_standingFor_33 (by decide) (fun hc33 => ?_) (fun hc33 => ?_)
      · skip
        refine MW.iincj dX1_standingFor_38 rfl rfl rfl ?_
        refine MW.goto 2 dX1_standingFor_41 (by decide) ?_
        exact ih (j + 1) (by omega) (by rw [← hI]; exact (cI_f (fun z => by first | exact absurd z.1 (by assumption) | exact absurd z.2 (by assumption))).symm)
      · skip
        refine MW.iload_n dX1_standingFor_36 rfl ?_
        exact MW.ireturn dX1_standingFor_37 rfl (rfl) (rt_e (by rw [← hI]; exact cI_t ⟨by assumption, by assumption⟩))
theorem c_standingFor {k : Nat} (hk : i 3 = nI k) (hk8 : k ≤ 8) {s c : Int32} : MC (En l D t b L xs) MX1_standingFor d [.ref (q 1), .int s, .int c] (hw t q i a w) mc ms (rt (some (.int (sfr (fun m => a 7 m = c ∧ a 5 m = s) k 0))) (hw t q i a w) mc ms) := by
  show MW _ _ _ 0 [some (.ref (q 1)), some (.int s), some (.int c), none] [] _ _ _ _
  refine MW.iconst (v := 0) dX1_standingFor_0 (by decide) ?_
  refine MW.istore_n dX1_standingFor_1 rfl rfl ?_
  exact l_sfr hk hk8 k 0 (by omega) rfl
theorem m1_neg : (nI 0 - 1 : Int32) < 0 := by decide
theorem add_m1 {x : Int32} : x + (-1) = x - 1 := (Int32.sub_eq_add_neg ..).symm
theorem MW.iincs {E : mi_E} {M : mi_M} {d pc : Nat} {lv : List (Option Value)} {st : List Value} {h : va_W} {mc ms : Nat} {Q : mi_O → va_W → Nat → Nat → Prop} {j : Nat} {x : Int32} (hd : decode M.2.1 pc = .ok (Instr.iinc j (-1), 3)) (hl : lv[j]? = some (some (.int x))) (hn : Nat.ble (j + 1) M.2.2.1 = true) (hj : mi_nl lv j = true) (k : MW E M d (pc + 3) (lv.set j (some (.int (x - 1)))) st h mc ms Q) : MW E M d pc lv st h mc ms Q := MW.iinc hd hl (by rw [mone32]; exact add_m1) hn hj k
set_option maxHeartbeats 2000000 in
theorem l_fdr {k : Nat} (hk : i 3 = nI k) (hk8 : k ≤ 8) {n : Nat} (hn : i 2 = nI n) (hn12 : n ≤ 12) {s x : Int32} : ∀ (m : Nat) (y : Int32) (z : Option Value), m ≤ n → fdr (fun m => sfr (fun p => a 7 p = nI m ∧ a 5 p = s) k 0) x m y = fdr (fun m => sfr (fun p => a 7 p = nI m ∧ a 5 p = s) k 0) x n 0 → MW (En l D t b L xs) MX1_fromDoors (d + 1) 10 [some (.ref (q 1)), some (.int s), some (.int x), some (.int y), some (.int (nI m - 1)), z] [] (hw t q i a w) mc ms (rt (some (.int (fdr (fun m => sfr (fun p => a 7 p = nI m ∧ a 5 p = s) k 0) x n 0))) (hw t q i a w) mc ms) := by
  intro m
  induction m with
  | zero =>
    intro y z hr hI
    refine MW.iload dX1_fromDoors_10 rfl ?_
    refine MW.if_lt 46 dX1_fromDoors_12 (by decide) (fun hc12 => ?_) (fun hc12 => absurd m1_neg hc12)
    refine MW.iconst (v := -1) dX1_fromDoors_46 (by decide) ?_
    exact MW.ireturn dX1_fromDoors_47 rfl (rfl) (rt_e hI.symm)
  | succ m ih =>
    intro y z hr hI
    rw [nI_pred]
    refine MW.iload dX1_fromDoors_10 rfl ?_
    refine MW.if_lt 46 dX1_fromDoors_12 (by decide) (fun hc12 => absurd hc12 (nI_pos (by omega))) (fun hc12 => ?_)
    refine MW.aload_n dX1_fromDoors_15 rfl ?_
    refine MW.iload_n dX1_fromDoors_16 rfl ?_
    refine MW.iload dX1_fromDoors_17 rfl ?_
    refine MW.callV1 fX1_fromDoors_19 1 rfl (c_standingFor hk hk8) rfl rfl rfl rfl (Nat.le_of_ble_eq_true rfl) ?_
    refine MW.istore dX1_fromDoors_22 rfl rfl ?_
    refine MW.iload dX1_fromDoors_24 rfl ?_
    refine MW.if_lt 40 dX1_fromDoors_26 (by decide) (fun hc26 => ?_) (fun hc26 => ?_)
    · skip
      refine MW.iincs dX1_fromDoors_40 rfl rfl rfl ?_
      refine MW.goto 10 dX1_fromDoors_43 (by decide) ?_
      exact ih _ _ (by omega) (by rw [← hI]; first | exact (if_pos hc26).symm | exact ((if_neg hc26).trans (if_neg hc31)).symm)
    · skip
      refine MW.iload_n dX1_fromDoors_29 rfl ?_
      refine MW.iload_n dX1_fromDoors_30 rfl ?_
      refine MW.icmp_ne 37 dX1_fromDoors_31 (by decide) (fun hc31 => ?_) (fun hc31 => ?_)
      · skip
        refine MW.iinc1 dX1_fromDoors_37 rfl rfl rfl ?_
        refine MW.iincs dX1_fromDoors_40 rfl rfl rfl ?_
        refine MW.goto 10 dX1_fromDoors_43 (by decide) ?_
        exact ih _ _ (by omega) (by rw [← hI]; first | exact (if_pos hc26).symm | exact ((if_neg hc26).trans (if_neg hc31)).symm)
      · skip
        refine MW.iload dX1_fromDoors_34 rfl ?_
        exact MW.ireturn dX1_fromDoors_36 rfl (rfl) (rt_e (by rw [← hI]; exact (if_neg hc26).trans (if_pos hc31)))
theorem c_fromDoors {k : Nat} (hk : i 3 = nI k) (hk8 : k ≤ 8) {n : Nat} (hn : i 2 = nI n) (hn12 : n ≤ 12) {s x : Int32} : MC (En l D t b L xs) MX1_fromDoors (d + 1) [.ref (q 1), .int s, .int x] (hw t q i a w) mc ms (rt (some (.int (fdr (fun m => sfr (fun p => a 7 p = nI m ∧ a 5 p = s) k 0) x n 0))) (hw t q i a w) mc ms) := by
  show MW _ _ _ 0 [some (.ref (q 1)), some (.int s), some (.int x), none, none, none] [] _ _ _ _
  refine MW.iconst (v := 0) dX1_fromDoors_0 (by decide) ?_
  refine MW.istore_n dX1_fromDoors_1 rfl rfl ?_
  refine MW.aload_n dX1_fromDoors_2 rfl ?_
  refine MW.getf fX1_fromDoors_3 1 rfl rfl ?_
  refine MW.iconst (v := 1) dX1_fromDoors_6 (by decide) ?_
  refine MW.isub dX1_fromDoors_7 ?_
  refine MW.top (v' := .int (nI n - 1)) (by rw [hn]) ?_
  refine MW.istore dX1_fromDoors_8 rfl rfl ?_
  exact l_fdr hk hk8 hn hn12 n 0 none (Nat.le_refl _) rfl
set_option maxHeartbeats 2000000 in
theorem l_tko {k : Nat} (hk : i 3 = nI k) (hk8 : k ≤ 8) : ∀ (r j : Nat), j + r = k → MW (En l D t b L xs) MX1_takeAllOut d 2 [some (.ref (q 1)), some (.int (nI j))] [] (hw t q i (au a 7 (tko (a 7) j)) w) mc ms (rt none (hw t q i (au a 7 (tko (a 7) k)) w) mc ms) := by
  intro r
  induction r with
  | zero =>
    intro j hr
    obtain rfl : j = k := by omega
    refine MW.iload_n dX1_takeAllOut_2 rfl ?_
    refine MW.aload_n dX1_takeAllOut_3 rfl ?_
    refine MW.getf fX1_takeAllOut_4 1 rfl rfl ?_
    refine MW.icmp_ge 26 dX1_takeAllOut_7 (by decide) (fun hc7 => ?_) (fun hc7 => absurd (show i 3 ≤ nI j by rw [hk]; exact nI_le (by omega) (by omega)) hc7)
    exact MW.vreturn dX1_takeAllOut_26 rfl rt_r
  | succ r ih =>
    intro j hr
    have hj : j < 8 := by omega
    refine MW.iload_n dX1_takeAllOut_2 rfl ?_
    refine MW.aload_n dX1_takeAllOut_3 rfl ?_
    refine MW.getf fX1_takeAllOut_4 1 rfl rfl ?_
    refine MW.icmp_ge 26 dX1_takeAllOut_7 (by decide) (fun hc7 => absurd hc7 (show ¬ i 3 ≤ nI j by rw [hk]; exact nI_ge (by omega) (by omega))) (fun hc7 => ?_)
    refine MW.aload_n dX1_takeAllOut_10 rfl ?_
    refine MW.getf fX1_takeAllOut_11 1 rfl rfl ?_
    refine MW.iload_n dX1_takeAllOut_14 rfl ?_
    refine MW.row dX1_takeAllOut_15 hj ?_
    refine MW.iconst (v := -1) dX1_takeAllOut_16 (by decide) ?_
    refine MW.pp5 fX1_takeAllOut_17 hj (rfl) (rfl) ?_
    refine MW.heap (h' := hw t q i (au a 7 (tko (a 7) (j + 1))) w) (by rw [au_au, au_at, tko_s]) ?_
    refine MW.iincj dX1_takeAllOut_20 rfl rfl rfl ?_
    refine MW.goto 2 dX1_takeAllOut_23 (by decide) ?_
    exact ih (j + 1) (by omega)
theorem c_takeAllOut {k : Nat} (hk : i 3 = nI k) (hk8 : k ≤ 8) : MC (En l D t b L xs) MX1_takeAllOut d [.ref (q 1)] (hw t q i a w) mc ms (rt none (hw t q i (au a 7 (tko (a 7) k)) w) mc ms) := by
  show MW _ _ _ 0 [some (.ref (q 1)), none] [] _ _ _ _
  refine MW.iconst (v := 0) dX1_takeAllOut_0 (by decide) ?_
  refine MW.istore_n dX1_takeAllOut_1 rfl rfl ?_
  refine MW.heap (h' := hw t q i (au a 7 (tko (a 7) 0)) w) (by rw [tko_0, au_self]) ?_
  exact l_tko hk hk8 k 0 (by omega)
set_option maxHeartbeats 2000000 in
theorem l_pf {k : Nat} (hk : i 3 = nI k) (hk8 : k ≤ 8) {n : Nat} (hn : i 2 = nI n) (hn12 : n ≤ 12) {j : Nat} (hj : j < 8) {x : Nat} : ∀ (r c : Nat), c + r = n → pfo (fun c => fb a k j c = 0) r c = pfo (fun c => fb a k j c = 0) (n - x) x → MW (En l D t b L xs) MX1_placeFrom (d + 3) 2 [some (.ref (q 1)), some (.int (nI x)), some (.ref (q (6 + j))), some (.int (nI c))] [] (hw t q i a w) mc ms (rt (some (.int (nI (pfv (pfo (fun c => fb a k j c = 0) (n - x) x) x)))) (hw t q i (au a 7 (pfw (pfo (fun c => fb a k j c = 0) (n - x) x) (a 7) j)) w) mc ms) := by
  intro r
  induction r with
  | zero =>
    intro c hr hI
    rw [← hI]
    refine MW.iload_n dX1_placeFrom_2 rfl ?_
    refine MW.aload_n dX1_placeFrom_3 rfl ?_
    refine MW.getf fX1_placeFrom_4 1 rfl rfl ?_
    refine MW.icmp_ge 34 dX1_placeFrom_7 (by decide) (fun hc7 => ?_) (fun hc7 => absurd (show i 2 ≤ nI c by rw [hn]; exact nI_le (by omega) (by omega)) hc7)
    refine MW.iload_n dX1_placeFrom_34 rfl ?_
    exact MW.ireturn dX1_placeFrom_35 rfl (rfl) ⟨rfl, by show _ = hw t q i (au a 7 (a 7)) w; rw [au_self], rfl, rfl⟩
  | succ r ih =>
    intro c hr hI
    have hm : c < n := by omega
    refine MW.iload_n dX1_placeFrom_2 rfl ?_
    refine MW.aload_n dX1_placeFrom_3 rfl ?_
    refine MW.getf fX1_placeFrom_4 1 rfl rfl ?_
    refine MW.icmp_ge 34 dX1_placeFrom_7 (by decide) (fun hc7 => absurd hc7 (show ¬ i 2 ≤ nI c by rw [hn]; exact nI_ge (by omega) (by omega))) (fun hc7 => ?_)
    refine MW.aload_n dX1_placeFrom_10 rfl ?_
    refine MW.aload_n dX1_placeFrom_11 rfl ?_
    refine MW.iload_n dX1_placeFrom_12 rfl ?_
    refine MW.callV1 fX1_placeFrom_13 1 rfl (c_firstBarButAxles hk hk8 hn hn12 hj hm) rfl rfl rfl rfl (Nat.le_of_ble_eq_true rfl) ?_
    refine MW.if_ne 28 dX1_placeFrom_16 (by decide) (fun hc16 => ?_) (fun hc16 => ?_)
    · skip
      refine MW.iincj dX1_placeFrom_28 rfl rfl rfl ?_
      refine MW.goto 2 dX1_placeFrom_31 (by decide) ?_
      exact ih (c + 1) (by omega) (by rw [← hI]; exact (pfo_f hc16).symm)
    · skip
      refine MW.aload_n dX1_placeFrom_19 rfl ?_
      refine MW.iload_n dX1_placeFrom_20 rfl ?_
      refine MW.pp5 fX1_placeFrom_21 hj (rfl) (rfl) ?_
      refine MW.iload_n dX1_placeFrom_24 rfl ?_
      refine MW.iconst (v := 1) dX1_placeFrom_25 (by decide) ?_
      refine MW.iadd dX1_placeFrom_26 ?_
      refine MW.top (v' := .int (nI (c + 1))) (by rw [nI_1]) ?_
      exact MW.ireturn dX1_placeFrom_27 rfl (rfl) (by rw [← hI, pfo_t hc16]; exact ⟨rfl, rfl, rfl, rfl⟩)
theorem c_placeFrom {k : Nat} (hk : i 3 = nI k) (hk8 : k ≤ 8) {n : Nat} (hn : i 2 = nI n) (hn12 : n ≤ 12) {j : Nat} (hj : j < 8) {x : Nat} (hx : x ≤ n) : MC (En l D t b L xs) MX1_placeFrom (d + 3) [.ref (q 1), .int (nI x), .ref (q (6 + j))] (hw t q i a w) mc ms (rt (some (.int (nI (pfv (pfo (fun c => fb a k j c = 0) (n - x) x) x)))) (hw t q i (au a 7 (pfw (pfo (fun c => fb a k j c = 0) (n - x) x) (a 7) j)) w) mc ms) := by
  show MW _ _ _ 0 [some (.ref (q 1)), some (.int (nI x)), some (.ref (q (6 + j))), none] [] _ _ _ _
  refine MW.iload_n dX1_placeFrom_0 rfl ?_
  refine MW.istore_n dX1_placeFrom_1 rfl rfl ?_
  exact l_pf hk hk8 hn hn12 hj (n - x) x (by omega) rfl
end Load3
/-- one pallet by rule: st is the next cell and where all stand -/
noncomputable def pbs (a : Nat → Nat → Int32) (n k s j : Nat) (st : Nat × (Nat → Int32)) : Nat × (Nat → Int32) := if a 5 j = nI s then (pfv (pfo (fun c => fb (au a 7 st.2) k j c = 0) (n - st.1) st.1) st.1, pfw (pfo (fun c => fb (au a 7 st.2) k j c = 0) (n - st.1) st.1) st.2 j) else st
noncomputable def pbj (a : Nat → Nat → Int32) (n k s : Nat) : Nat → Nat → Nat × (Nat → Int32) → Nat × (Nat → Int32)
  | 0, _, st => st
  | r + 1, j, st => pbj a n k s r (j + 1) (pbs a n k s j st)
noncomputable def pbo (a : Nat → Nat → Int32) (n k : Nat) : Nat → Nat × (Nat → Int32) → Nat × (Nat → Int32)
  | 0, st => st
  | s + 1, st => pbo a n k s (pbj a n k (s + 1) k 0 st)
theorem pfv_le {p : Nat → Prop} {n x : Nat} (hx : x ≤ n) : pfv (pfo p (n - x) x) x ≤ n := by
  cases h : pfo p (n - x) x with
  | none => exact hx
  | some c => have := pfo_le h; show c + 1 ≤ n; omega
theorem pbs_le {a : Nat → Nat → Int32} {n k s j : Nat} {st : Nat × (Nat → Int32)} (h : st.1 ≤ n) : (pbs a n k s j st).1 ≤ n := by
  unfold pbs
  split
  · exact pfv_le h
  · exact h
section Rule
variable {l : Launch} {D : va_G} {t : ty4} {b L : Nat} {xs : Nat → Int32} {q : Nat → Nat} {i : Nat → Int32} {a : Nat → Nat → Int32} {w : Int64} {d mc ms : Nat}
set_option maxHeartbeats 2000000 in
theorem l_pbj {k : Nat} (hk : i 3 = nI k) (hk8 : k ≤ 8) {n : Nat} (hn : i 2 = nI n) (hn12 : n ≤ 12) {s : Nat} {Q : mi_O → va_W → Nat → Nat → Prop} : ∀ (r j x : Nat) (wh : Nat → Int32), j + r = k → x ≤ n → (∀ x1 wh1, x1 ≤ n → pbj a n k s r j (x, wh) = (x1, wh1) → MW (En l D t b L xs) MX1_placeByRule (d + 4) 55 [some (.ref (q 1)), some (.int (nI x1)), some (.int (nI s)), some (.int (nI k))] [] (hw t q i (au a 7 wh1) w) mc ms Q) → MW (En l D t b L xs) MX1_placeByRule (d + 4) 16 [some (.ref (q 1)), some (.int (nI x)), some (.int (nI s)), some (.int (nI j))] [] (hw t q i (au a 7 wh) w) mc ms Q := by
  intro r
  induction r with
  | zero =>
    intro j x wh hr hx hQ
    obtain rfl : j = k := by omega
    refine MW.iload_n dX1_placeByRule_16 rfl ?_
    refine MW.aload_n dX1_placeByRule_17 rfl ?_
    refine MW.getf fX1_placeByRule_18 1 rfl rfl ?_
    refine MW.icmp_ge 55 dX1_placeByRule_21 (by decide) (fun hc21 => ?_) (fun hc21 => absurd (show i 3 ≤ nI j by rw [hk]; exact nI_le (by omega) (by omega)) hc21)
    exact hQ x wh hx rfl
  | succ r ih =>
    intro j x wh hr hx hQ
    have hj : j < 8 := by omega
    refine MW.iload_n dX1_placeByRule_16 rfl ?_
    refine MW.aload_n dX1_placeByRule_17 rfl ?_
    refine MW.getf fX1_placeByRule_18 1 rfl rfl ?_
    refine MW.icmp_ge 55 dX1_placeByRule_21 (by decide) (fun hc21 => absurd hc21 (show ¬ i 3 ≤ nI j by rw [hk]; exact nI_ge (by omega) (by omega))) (fun hc21 => ?_)
    refine MW.aload_n dX1_placeByRule_24 rfl ?_
    refine MW.getf fX1_placeByRule_25 1 rfl rfl ?_
    refine MW.iload_n dX1_placeByRule_28 rfl ?_
    refine MW.row dX1_placeByRule_29 hj ?_
    refine MW.pg3 fX1_placeByRule_30 hj ?_
    refine MW.iload_n dX1_placeByRule_33 rfl ?_
    refine MW.icmp_ne 49 dX1_placeByRule_34 (by decide) (fun hc34 => ?_) (fun hc34 => ?_)
    · skip
      refine MW.iincj dX1_placeByRule_49 rfl rfl rfl ?_
      refine MW.goto 16 dX1_placeByRule_52 (by decide) ?_
      first
        | exact ih (j + 1) _ _ (by omega) (pfv_le hx) (fun x1 wh1 h1 h2 => hQ x1 wh1 h1 (by rw [← h2]; show pbj a n k s r (j + 1) (pbs a n k s j (x, wh)) = _; rw [show pbs a n k s j (x, wh) = _ from if_pos (show a 5 j = nI s from hc34)]))
        | exact ih (j + 1) x wh (by omega) hx (fun x1 wh1 h1 h2 => hQ x1 wh1 h1 (by rw [← h2]; show pbj a n k s r (j + 1) (pbs a n k s j (x, wh)) = _; rw [show pbs a n k s j (x, wh) = _ from if_neg (show ¬ a 5 j = nI s from hc34)]))
    · skip
      refine MW.aload_n dX1_placeByRule_37 rfl ?_
      refine MW.iload_n dX1_placeByRule_38 rfl ?_
      refine MW.aload_n dX1_placeByRule_39 rfl ?_
      refine MW.getf fX1_placeByRule_40 1 rfl rfl ?_
      refine MW.iload_n dX1_placeByRule_43 rfl ?_
      refine MW.row dX1_placeByRule_44 hj ?_
      refine MW.callV1 fX1_placeByRule_45 1 rfl (c_placeFrom (a := au a 7 wh) hk hk8 hn hn12 hj hx) rfl rfl rfl rfl (Nat.le_of_ble_eq_true rfl) ?_
      refine MW.heap (h' := hw t q i (au a 7 (pfw (pfo (fun c => fb (au a 7 wh) k j c = 0) (n - x) x) wh j)) w) (by rw [au_at, au_au]) ?_
      refine MW.istore_n dX1_placeByRule_48 rfl rfl ?_
      refine MW.iincj dX1_placeByRule_49 rfl rfl rfl ?_
      refine MW.goto 16 dX1_placeByRule_52 (by decide) ?_
      first
        | exact ih (j + 1) _ _ (by omega) (pfv_le hx) (fun x1 wh1 h1 h2 => hQ x1 wh1 h1 (by rw [← h2]; show pbj a n k s r (j + 1) (pbs a n k s j (x, wh)) = _; rw [show pbs a n k s j (x, wh) = _ from if_pos (show a 5 j = nI s from hc34)]))
        | exact ih (j + 1) x wh (by omega) hx (fun x1 wh1 h1 h2 => hQ x1 wh1 h1 (by rw [← h2]; show pbj a n k s r (j + 1) (pbs a n k s j (x, wh)) = _; rw [show pbs a n k s j (x, wh) = _ from if_neg (show ¬ a 5 j = nI s from hc34)]))
set_option maxHeartbeats 2000000 in
theorem l_pbo {k : Nat} (hk : i 3 = nI k) (hk8 : k ≤ 8) {n : Nat} (hn : i 2 = nI n) (hn12 : n ≤ 12) : ∀ (s x : Nat) (wh : Nat → Int32) (z : Option Value), s ≤ 9 → x ≤ n → pbo a n k s (x, wh) = pbo a n k 9 (0, tko (a 7) k) → MW (En l D t b L xs) MX1_placeByRule (d + 4) 9 [some (.ref (q 1)), some (.int (nI x)), some (.int (nI s)), z] [] (hw t q i (au a 7 wh) w) mc ms (rt none (hw t q i (au a 7 (pbo a n k 9 (0, tko (a 7) k)).2) w) mc ms) := by
  intro s
  induction s with
  | zero =>
    intro x wh z hs hx hI
    refine MW.iload_n dX1_placeByRule_9 rfl ?_
    refine MW.iconst (v := 1) dX1_placeByRule_10 (by decide) ?_
    refine MW.icmp_lt 61 dX1_placeByRule_11 (by decide) (fun hc11 => ?_) (fun hc11 => absurd (show (nI 0 : Int32) < 1 by decide) hc11)
    exact MW.vreturn dX1_placeByRule_61 rfl ⟨rfl, by rw [← hI]; rfl, rfl, rfl⟩
  | succ s ih =>
    intro x wh z hs hx hI
    refine MW.iload_n dX1_placeByRule_9 rfl ?_
    refine MW.iconst (v := 1) dX1_placeByRule_10 (by decide) ?_
    refine MW.icmp_lt 61 dX1_placeByRule_11 (by decide) (fun hc11 => absurd hc11 (show ¬ nI (s + 1) < 1 from nI_nlt (b := 1) (by omega) (by omega))) (fun hc11 => ?_)
    refine MW.iconst (v := 0) dX1_placeByRule_14 (by decide) ?_
    refine MW.istore_n dX1_placeByRule_15 rfl rfl ?_
    refine l_pbj hk hk8 hn hn12 k 0 x wh (by omega) hx (fun x1 wh1 h1 h2 => ?_)
    refine MW.iincd dX1_placeByRule_55 rfl rfl rfl ?_
    refine MW.goto 9 dX1_placeByRule_58 (by decide) ?_
    exact ih x1 wh1 _ (by omega) h1 (by rw [← hI, ← h2]; rfl)
theorem c_placeByRule {k : Nat} (hk : i 3 = nI k) (hk8 : k ≤ 8) {n : Nat} (hn : i 2 = nI n) (hn12 : n ≤ 12) : MC (En l D t b L xs) MX1_placeByRule (d + 4) [.ref (q 1)] (hw t q i a w) mc ms (rt none (hw t q i (au a 7 (pbo a n k 9 (0, tko (a 7) k)).2) w) mc ms) := by
  show MW _ _ _ 0 [some (.ref (q 1)), none, none, none] [] _ _ _ _
  refine MW.aload_n dX1_placeByRule_0 rfl ?_
  refine MW.callV0 fX1_placeByRule_1 1 rfl (c_takeAllOut hk hk8) rfl rfl rfl rfl (Nat.le_of_ble_eq_true rfl) ?_
  refine MW.iconst (v := 0) dX1_placeByRule_4 (by decide) ?_
  refine MW.istore_n dX1_placeByRule_5 rfl rfl ?_
  refine MW.bipush (v := 9) dX1_placeByRule_6 (by decide) ?_
  refine MW.istore_n dX1_placeByRule_8 rfl rfl ?_
  exact l_pbo hk hk8 hn hn12 9 0 _ none (by omega) (by omega) rfl
end Rule
