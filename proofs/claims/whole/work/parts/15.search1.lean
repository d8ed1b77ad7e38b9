theorem MW.up {E : mi_E} {M : mi_M} {d d' pc : Nat} {lv : List (Option Value)} {st : List Value} {h : va_W} {mc ms : Nat} {Q : mi_O → va_W → Nat → Nat → Prop} (hd : d ≤ d') (k : MW E M d pc lv st h mc ms Q) : MW E M d' pc lv st h mc ms Q := by
  intro p e R s m args below meth c H locs ls A cb sb Z hp hz
  refine k p e R s m args below meth c H locs ls A cb sb Z ⟨hp.1, hp.2.1, hp.2.2.1, hp.2.2.2.1, ⟨?_, ?_, hp.2.2.2.2.1.2.2⟩, hp.2.2.2.2.2⟩ hz
  · exact Nat.le_trans hd hp.2.2.2.2.1.1
  · have := hp.2.2.2.2.1.2.1
    omega
theorem MC.up {E : mi_E} {N : mi_M} {d d' : Nat} {As : List Value} {h : va_W} {mc ms : Nat} {Q : mi_O → va_W → Nat → Nat → Prop} (hd : d ≤ d') (k : MC E N d As h mc ms Q) : MC E N d' As h mc ms Q := MW.up hd k
/-- the weights of r pallets from j on, laid to x -/
def rst (wt : Nat → Int32) : Nat → Nat → Int32 → Int32
  | 0, _, x => x
  | r + 1, j, x => rst wt r (j + 1) (x + wt j)
def mn (x y : Int32) : Int32 := if y < x then y else x
/-- no placing from the pallet dd on is right and better than the best -/
def hpP (i wt wh : Nat → Int32) (k dd : Nat) (bS bW : Int32) : Prop :=
  (stn wh k + nI k - nI dd < bS ∨ stn wh k + nI k - nI dd = bS ∧ wtn wt wh k + rst wt (k - dd) dd 0 ≤ bW) ∨
  ¬ (axn (shr i 0) wt wh k + mn 0 (shr i 0 (rst wt (k - dd) dd 0) (i 2 - 1)) ≤ i 6 * (i 5 - i 4) ∧ axn (shr i 1) wt wh k + mn 0 (shr i 1 (rst wt (k - dd) dd 0) 0) ≤ i 7 * (i 5 - i 4))
/-- the first k of f, the others of g -/
def cpk (f g : Nat → Int32) (k : Nat) : Nat → Int32 := fun m => if m < k then f m else g m
theorem cpk_0 {f g : Nat → Int32} : cpk f g 0 = g := by funext m; simp [cpk]
theorem cpk_s {f g : Nat → Int32} {j : Nat} : upd (cpk f g j) j (f j) = cpk f g (j + 1) := by
  funext m
  by_cases h1 : m = j
  · subst h1; simp [upd, cpk]
  · by_cases h2 : m < j
    · simp [upd, cpk, h1, h2, show m < j + 1 by omega]
    · simp [upd, cpk, h1, h2, show ¬ m < j + 1 by omega]
section Search1
variable {l : Launch} {D : va_G} {t : ty4} {b L : Nat} {xs : Nat → Int32} {q : Nat → Nat} {i : Nat → Int32} {a : Nat → Nat → Int32} {w : Int64} {d mc ms : Nat}
set_option maxHeartbeats 2000000 in
theorem l_hope1 {k : Nat} (hk : i 3 = nI k) (hk8 : k ≤ 8) {dd : Nat} {Q : mi_O → va_W → Nat → Nat → Prop} : ∀ (r j : Nat) (x : Int32), j + r = k → MW (En l D t b L xs) MX4_isHopeless (d + 2) 33 [some (.ref (q 14)), some (.ref (q 1)), some (.int (nI dd)), some (.int (rst (a 2) r j x)), some (.int (nI k)), none, none] [] (hw t q i a w) mc ms Q → MW (En l D t b L xs) MX4_isHopeless (d + 2) 5 [some (.ref (q 14)), some (.ref (q 1)), some (.int (nI dd)), some (.int x), some (.int (nI j)), none, none] [] (hw t q i a w) mc ms Q := by
  intro r
  induction r with
  | zero =>
    intro j x hr hQ
    obtain rfl : j = k := by omega
    refine MW.iload dX4_isHopeless_5 rfl ?_
    refine MW.aload_n dX4_isHopeless_7 rfl ?_
    refine MW.getf fX4_isHopeless_8 1 rfl rfl ?_
    refine MW.icmp_ge 33 dX4_isHopeless_11 (by decide) (fun hc11 => ?_) (fun hc11 => absurd (show i 3 ≤ nI j by rw [hk]; exact nI_le (by omega) (by omega)) hc11)
    exact hQ
  | succ r ih =>
    intro j x hr hQ
    have hj : j < 8 := by omega
    refine MW.iload dX4_isHopeless_5 rfl ?_
    refine MW.aload_n dX4_isHopeless_7 rfl ?_
    refine MW.getf fX4_isHopeless_8 1 rfl rfl ?_
    refine MW.icmp_ge 33 dX4_isHopeless_11 (by decide) (fun hc11 => absurd hc11 (show ¬ i 3 ≤ nI j by rw [hk]; exact nI_ge (by omega) (by omega))) (fun hc11 => ?_)
    refine MW.iload_n dX4_isHopeless_14 rfl ?_
    refine MW.aload_n dX4_isHopeless_15 rfl ?_
    refine MW.getf fX4_isHopeless_16 1 rfl rfl ?_
    refine MW.iload dX4_isHopeless_19 rfl ?_
    refine MW.row dX4_isHopeless_21 hj ?_
    refine MW.pg0 fX4_isHopeless_22 hj ?_
    refine MW.iadd dX4_isHopeless_25 ?_
    refine MW.istore_n dX4_isHopeless_26 rfl rfl ?_
    refine MW.iincj dX4_isHopeless_27 rfl rfl rfl ?_
    refine MW.goto 5 dX4_isHopeless_30 (by decide) ?_
    exact ih (j + 1) _ (by omega) hQ
set_option maxHeartbeats 2000000 in
theorem c_isHopeless {k : Nat} (hk : i 3 = nI k) (hk8 : k ≤ 8) {dd : Nat} (hdd : dd ≤ k) : MC (En l D t b L xs) MX4_isHopeless (d + 2) [.ref (q 14), .ref (q 1), .int (nI dd)] (hw t q i a w) mc ms (rt (some (.int (bI (hpP i (a 2) (a 7) k dd (i 8) (i 9))))) (hw t q i a w) mc ms) := by
  show MW _ _ _ 0 [some (.ref (q 14)), some (.ref (q 1)), some (.int (nI dd)), none, none, none, none] [] _ _ _ _
  refine MW.iconst (v := 0) dX4_isHopeless_0 (by decide) ?_
  refine MW.istore_n dX4_isHopeless_1 rfl rfl ?_
  refine MW.iload_n dX4_isHopeless_2 rfl ?_
  refine MW.istore dX4_isHopeless_3 rfl rfl ?_
  refine l_hope1 hk hk8 (k - dd) dd 0 (by omega) ?_
  refine MW.aload_n dX4_isHopeless_33 rfl ?_
  refine MW.callV1 fX4_isHopeless_34 1 rfl (c_standing hk hk8) rfl rfl rfl rfl (Nat.le_of_ble_eq_true rfl) ?_
  refine MW.aload_n dX4_isHopeless_37 rfl ?_
  refine MW.getf fX4_isHopeless_38 1 rfl rfl ?_
  refine MW.top (v' := .int (nI k)) (by rw [hk]) ?_
  refine MW.iadd dX4_isHopeless_41 ?_
  refine MW.iload_n dX4_isHopeless_42 rfl ?_
  refine MW.isub dX4_isHopeless_43 ?_
  refine MW.istore dX4_isHopeless_44 rfl rfl ?_
  refine MW.iload dX4_isHopeless_46 rfl ?_
  refine MW.aload_n dX4_isHopeless_48 rfl ?_
  refine MW.getf fX4_isHopeless_49 14 rfl rfl ?_
  refine MW.icmp_lt 77 dX4_isHopeless_52 (by decide) (fun hc52 => ?_) (fun hc52 => ?_)
  · skip
    refine MW.iconst (v := 1) dX4_isHopeless_77 (by decide) ?_
    exact MW.ireturn dX4_isHopeless_78 rfl (rfl) (by first | exact rtb_t (Or.inl (Or.inl hc52)) | exact rtb_t (Or.inl (Or.inr ⟨hc61, Int32.not_lt.mp hc74⟩)))
  · skip
    refine MW.iload dX4_isHopeless_55 rfl ?_
    refine MW.aload_n dX4_isHopeless_57 rfl ?_
    refine MW.getf fX4_isHopeless_58 14 rfl rfl ?_
    refine MW.icmp_ne 79 dX4_isHopeless_61 (by decide) (fun hc61 => ?_) (fun hc61 => ?_)
    · skip
      refine MW.iconst (v := 0) dX4_isHopeless_79 (by decide) ?_
      refine MW.aload_n dX4_isHopeless_80 rfl ?_
      refine MW.getf fX4_isHopeless_81 1 rfl rfl ?_
      refine MW.iconst (v := 0) dX4_isHopeless_84 (by decide) ?_
      refine MW.iload_n dX4_isHopeless_85 rfl ?_
      refine MW.aload_n dX4_isHopeless_86 rfl ?_
      refine MW.getf fX4_isHopeless_87 1 rfl rfl ?_
      refine MW.iconst (v := 1) dX4_isHopeless_90 (by decide) ?_
      refine MW.isub dX4_isHopeless_91 ?_
      refine MW.callV1 fX4_isHopeless_92 5 rfl (c_share) rfl rfl rfl rfl (Nat.le_of_ble_eq_true rfl) ?_
      refine MW.mmin dX4_isHopeless_95 fX4_isHopeless_95 wm_min1 wm_i wm_min2 (Nat.le_of_ble_eq_true rfl) ?_
      refine MW.istore dX4_isHopeless_98 rfl rfl ?_
      refine MW.iconst (v := 0) dX4_isHopeless_100 (by decide) ?_
      refine MW.aload_n dX4_isHopeless_101 rfl ?_
      refine MW.getf fX4_isHopeless_102 1 rfl rfl ?_
      refine MW.iconst (v := 1) dX4_isHopeless_105 (by decide) ?_
      refine MW.iload_n dX4_isHopeless_106 rfl ?_
      refine MW.iconst (v := 0) dX4_isHopeless_107 (by decide) ?_
      refine MW.callV1 fX4_isHopeless_108 5 rfl (c_share) rfl rfl rfl rfl (Nat.le_of_ble_eq_true rfl) ?_
      refine MW.mmin dX4_isHopeless_111 fX4_isHopeless_111 wm_min1 wm_i wm_min2 (Nat.le_of_ble_eq_true rfl) ?_
      refine MW.istore dX4_isHopeless_114 rfl rfl ?_
      refine MW.aload_n dX4_isHopeless_116 rfl ?_
      refine MW.getf fX4_isHopeless_117 1 rfl rfl ?_
      refine MW.aload_n dX4_isHopeless_120 rfl ?_
      refine MW.iconst (v := 0) dX4_isHopeless_121 (by decide) ?_
      refine MW.callV1 fX4_isHopeless_122 1 rfl (c_onAxle hk hk8) rfl rfl rfl rfl (Nat.le_of_ble_eq_true rfl) ?_
      refine MW.iload dX4_isHopeless_125 rfl ?_
      refine MW.iadd dX4_isHopeless_127 ?_
      refine MW.aload_n dX4_isHopeless_128 rfl ?_
      refine MW.iconst (v := 1) dX4_isHopeless_129 (by decide) ?_
      refine MW.callV1 fX4_isHopeless_130 1 rfl (c_onAxle hk hk8) rfl rfl rfl rfl (Nat.le_of_ble_eq_true rfl) ?_
      refine MW.iload dX4_isHopeless_133 rfl ?_
      refine MW.iadd dX4_isHopeless_135 ?_
      refine MW.callV1 fX4_isHopeless_136 5 rfl (c_bear) rfl rfl rfl rfl (Nat.le_of_ble_eq_true rfl) ?_
      refine MW.if_ne 146 dX4_isHopeless_139 (by decide) (fun hc139 => ?_) (fun hc139 => ?_)
      · skip
        refine MW.iconst (v := 0) dX4_isHopeless_146 (by decide) ?_
        exact MW.ireturn dX4_isHopeless_147 rfl (rfl) (by first | exact rtb_t (Or.inr (zz hc139)) | exact rtb_f (fun z => z.elim (fun y => y.elim hc52 (fun y => by first | exact absurd y.1 hc61 | exact absurd y.2 (Int32.not_le.mpr hc74))) (fun y => y (nz hc139))))
      · skip
        refine MW.iconst (v := 1) dX4_isHopeless_142 (by decide) ?_
        refine MW.goto 147 dX4_isHopeless_143 (by decide) ?_
        exact MW.ireturn dX4_isHopeless_147 rfl (rfl) (by first | exact rtb_t (Or.inr (zz hc139)) | exact rtb_f (fun z => z.elim (fun y => y.elim hc52 (fun y => by first | exact absurd y.1 hc61 | exact absurd y.2 (Int32.not_le.mpr hc74))) (fun y => y (nz hc139))))
    · skip
      refine MW.aload_n dX4_isHopeless_64 rfl ?_
      refine MW.callV1 fX4_isHopeless_65 1 rfl (c_weight hk hk8) rfl rfl rfl rfl (Nat.le_of_ble_eq_true rfl) ?_
      refine MW.iload_n dX4_isHopeless_68 rfl ?_
      refine MW.iadd dX4_isHopeless_69 ?_
      refine MW.aload_n dX4_isHopeless_70 rfl ?_
      refine MW.getf fX4_isHopeless_71 14 rfl rfl ?_
      refine MW.icmp_gt 79 dX4_isHopeless_74 (by decide) (fun hc74 => ?_) (fun hc74 => ?_)
      · skip
        refine MW.iconst (v := 0) dX4_isHopeless_79 (by decide) ?_
        refine MW.aload_n dX4_isHopeless_80 rfl ?_
        refine MW.getf fX4_isHopeless_81 1 rfl rfl ?_
        refine MW.iconst (v := 0) dX4_isHopeless_84 (by decide) ?_
        refine MW.iload_n dX4_isHopeless_85 rfl ?_
        refine MW.aload_n dX4_isHopeless_86 rfl ?_
        refine MW.getf fX4_isHopeless_87 1 rfl rfl ?_
        refine MW.iconst (v := 1) dX4_isHopeless_90 (by decide) ?_
        refine MW.isub dX4_isHopeless_91 ?_
        refine MW.callV1 fX4_isHopeless_92 5 rfl (c_share) rfl rfl rfl rfl (Nat.le_of_ble_eq_true rfl) ?_
        refine MW.mmin dX4_isHopeless_95 fX4_isHopeless_95 wm_min1 wm_i wm_min2 (Nat.le_of_ble_eq_true rfl) ?_
        refine MW.istore dX4_isHopeless_98 rfl rfl ?_
        refine MW.iconst (v := 0) dX4_isHopeless_100 (by decide) ?_
        refine MW.aload_n dX4_isHopeless_101 rfl ?_
        refine MW.getf fX4_isHopeless_102 1 rfl rfl ?_
        refine MW.iconst (v := 1) dX4_isHopeless_105 (by decide) ?_
        refine MW.iload_n dX4_isHopeless_106 rfl ?_
        refine MW.iconst (v := 0) dX4_isHopeless_107 (by decide) ?_
        refine MW.callV1 fX4_isHopeless_108 5 rfl (c_share) rfl rfl rfl rfl (Nat.le_of_ble_eq_true rfl) ?_
        refine MW.mmin dX4_isHopeless_111 fX4_isHopeless_111 wm_min1 wm_i wm_min2 (Nat.le_of_ble_eq_true rfl) ?_
        refine MW.istore dX4_isHopeless_114 rfl rfl ?_
        refine MW.aload_n dX4_isHopeless_116 rfl ?_
        refine MW.getf fX4_isHopeless_117 1 rfl rfl ?_
        refine MW.aload_n dX4_isHopeless_120 rfl ?_
        refine MW.iconst (v := 0) dX4_isHopeless_121 (by decide) ?_
        refine MW.callV1 fX4_isHopeless_122 1 rfl (c_onAxle hk hk8) rfl rfl rfl rfl (Nat.le_of_ble_eq_true rfl) ?_
        refine MW.iload dX4_isHopeless_125 rfl ?_
        refine MW.iadd dX4_isHopeless_127 ?_
        refine MW.aload_n dX4_isHopeless_128 rfl ?_
        refine MW.iconst (v := 1) dX4_isHopeless_129 (by decide) ?_
        refine MW.callV1 fX4_isHopeless_130 1 rfl (c_onAxle hk hk8) rfl rfl rfl rfl (Nat.le_of_ble_eq_true rfl) ?_
        refine MW.iload dX4_isHopeless_133 rfl ?_
        refine MW.iadd dX4_isHopeless_135 ?_
        refine MW.callV1 fX4_isHopeless_136 5 rfl (c_bear) rfl rfl rfl rfl (Nat.le_of_ble_eq_true rfl) ?_
        refine MW.if_ne 146 dX4_isHopeless_139 (by decide) (fun hc139 => ?_) (fun hc139 => ?_)
        · skip
          refine MW.iconst (v := 0) dX4_isHopeless_146 (by decide) ?_
          exact MW.ireturn dX4_isHopeless_147 rfl (rfl) (by first | exact rtb_t (Or.inr (zz hc139)) | exact rtb_f (fun z => z.elim (fun y => y.elim hc52 (fun y => by first | exact absurd y.1 hc61 | exact absurd y.2 (Int32.not_le.mpr hc74))) (fun y => y (nz hc139))))
        · skip
          refine MW.iconst (v := 1) dX4_isHopeless_142 (by decide) ?_
          refine MW.goto 147 dX4_isHopeless_143 (by decide) ?_
          exact MW.ireturn dX4_isHopeless_147 rfl (rfl) (by first | exact rtb_t (Or.inr (zz hc139)) | exact rtb_f (fun z => z.elim (fun y => y.elim hc52 (fun y => by first | exact absurd y.1 hc61 | exact absurd y.2 (Int32.not_le.mpr hc74))) (fun y => y (nz hc139))))
      · skip
        refine MW.iconst (v := 1) dX4_isHopeless_77 (by decide) ?_
        exact MW.ireturn dX4_isHopeless_78 rfl (rfl) (by first | exact rtb_t (Or.inl (Or.inl hc52)) | exact rtb_t (Or.inl (Or.inr ⟨hc61, Int32.not_lt.mp hc74⟩)))
set_option maxHeartbeats 2000000 in
theorem l_keep {k : Nat} (hk : i 3 = nI k) (hk8 : k ≤ 8) (hk5 : k ≤ 5) : ∀ (r j : Nat), j + r = k → MW (En l D t b L xs) MX4_keep d 18 [some (.ref (q 14)), some (.ref (q 1)), some (.int (nI j))] [] (hw t q i (au a 8 (cpk (a 7) (a 8) j)) w) mc ms (rt none (hw t q i (au a 8 (cpk (a 7) (a 8) k)) w) mc ms) := by
  intro r
  induction r with
  | zero =>
    intro j hr
    obtain rfl : j = k := by omega
    refine MW.iload_n dX4_keep_18 rfl ?_
    refine MW.aload_n dX4_keep_19 rfl ?_
    refine MW.getf fX4_keep_20 1 rfl rfl ?_
    refine MW.icmp_ge 52 dX4_keep_23 (by decide) (fun hc23 => ?_) (fun hc23 => absurd (show i 3 ≤ nI j by rw [hk]; exact nI_le (by omega) (by omega)) hc23)
    exact MW.vreturn dX4_keep_52 rfl rt_r
  | succ r ih =>
    intro j hr
    have hj : j < 8 := by omega
    have hj5 : j < 5 := by omega
    refine MW.iload_n dX4_keep_18 rfl ?_
    refine MW.aload_n dX4_keep_19 rfl ?_
    refine MW.getf fX4_keep_20 1 rfl rfl ?_
    refine MW.icmp_ge 52 dX4_keep_23 (by decide) (fun hc23 => absurd hc23 (show ¬ i 3 ≤ nI j by rw [hk]; exact nI_ge (by omega) (by omega))) (fun hc23 => ?_)
    refine MW.iload_n dX4_keep_26 rfl ?_
    refine MW.iconst (v := 5) dX4_keep_27 (by decide) ?_
    refine MW.icmp_ge 52 dX4_keep_28 (by decide) (fun hc28 => absurd hc28 (show ¬ (5 : Int32) ≤ nI j from nI_ge (b := 5) hj5 (by omega))) (fun hc28 => ?_)
    refine MW.aload_n dX4_keep_31 rfl ?_
    refine MW.getf fX4_keep_32 14 rfl rfl ?_
    refine MW.iload_n dX4_keep_35 rfl ?_
    refine MW.aload_n dX4_keep_36 rfl ?_
    refine MW.getf fX4_keep_37 1 rfl rfl ?_
    refine MW.iload_n dX4_keep_40 rfl ?_
    refine MW.row dX4_keep_41 hj ?_
    refine MW.pg5 fX4_keep_42 hj ?_
    refine MW.isj dX4_keep_45 15 0 rfl rfl hj5 (by decide) ?_
    refine MW.heap hw_a15 ?_
    refine MW.heap (h' := hw t q i (au a 8 (cpk (a 7) (a 8) (j + 1))) w) (by rw [au_au, au_at]; show hw t q i (au a 8 (upd (cpk (a 7) (a 8) j) j (a 7 j))) w = _; rw [cpk_s]) ?_
    refine MW.iincj dX4_keep_46 rfl rfl rfl ?_
    refine MW.goto 18 dX4_keep_49 (by decide) ?_
    exact ih (j + 1) (by omega)
set_option maxHeartbeats 2000000 in
theorem c_keep {k : Nat} (hk : i 3 = nI k) (hk8 : k ≤ 8) (hk5 : k ≤ 5) : MC (En l D t b L xs) MX4_keep (d + 2) [.ref (q 14), .ref (q 1)] (hw t q i a w) mc ms (rt none (hw t q (upd (upd i 8 (stn (a 7) k)) 9 (wtn (a 2) (a 7) k)) (au a 8 (cpk (a 7) (a 8) k)) w) mc ms) := by
  show MW _ _ _ 0 [some (.ref (q 14)), some (.ref (q 1)), none] [] _ _ _ _
  refine MW.aload_n dX4_keep_0 rfl ?_
  refine MW.aload_n dX4_keep_1 rfl ?_
  refine MW.callV1 fX4_keep_2 1 rfl (c_standing hk hk8) rfl rfl rfl rfl (Nat.le_of_ble_eq_true rfl) ?_
  refine MW.putf fX4_keep_5 14 rfl (rfl) (rfl) rfl ?_
  refine MW.heap hw_s4_1 ?_
  refine MW.aload_n dX4_keep_8 rfl ?_
  refine MW.aload_n dX4_keep_9 rfl ?_
  refine MW.callV1 fX4_keep_10 1 rfl (c_weight hk hk8) rfl rfl rfl rfl (Nat.le_of_ble_eq_true rfl) ?_
  refine MW.putf fX4_keep_13 14 rfl (rfl) (rfl) rfl ?_
  refine MW.heap hw_s4_2 ?_
  refine MW.iconst (v := 0) dX4_keep_16 (by decide) ?_
  refine MW.istore_n dX4_keep_17 rfl rfl ?_
  refine MW.heap (h' := hw t q (upd (upd i 8 (stn (a 7) k)) 9 (wtn (a 2) (a 7) k)) (au a 8 (cpk (a 7) (a 8) 0)) w) (by rw [cpk_0, au_self]) ?_
  exact l_keep (i := (upd (upd i 8 (stn (a 7) k)) 9 (wtn (a 2) (a 7) k))) hk hk8 hk5 k 0 (by omega)
end Search1
