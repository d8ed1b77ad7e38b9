section Switch
variable {E : mi_E} {M : mi_M} {d pc : Nat} {lv : List (Option Value)} {st : List Value} {h : va_W} {mc ms : Nat} {Q : mi_O → va_W → Nat → Nat → Prop}
theorem MW.tableIn {dflt lo hi : Int} {offs : Array Int} {len : Nat} {x : Int32} {off : Int} (tgt : Nat) (hd : decode M.2.1 pc = .ok (Instr.tableswitch dflt lo hi offs, len)) (h1 : ¬ x.toInt < lo) (h2 : ¬ hi < x.toInt) (ho : offs[(x.toInt - lo).toNat]? = some off) (ht : (pc : Int) + off = (tgt : Int)) (k : MW E M d tgt lv st h mc ms Q) : MW E M d pc lv (.int x :: st) h mc ms Q := by
  intro p e R s m args below meth c H locs ls A cb sb Z hp hz
  exact lv_tableIn hp.1.1 hp.1.2.1 hd h1 h2 ho ht (k p e R s m args below meth c H locs ls A cb sb Z hp hz)
theorem MW.tableOut {dflt lo hi : Int} {offs : Array Int} {len : Nat} {x : Int32} (tgt : Nat) (hd : decode M.2.1 pc = .ok (Instr.tableswitch dflt lo hi offs, len)) (h1 : x.toInt < lo ∨ hi < x.toInt) (ht : (pc : Int) + dflt = (tgt : Int)) (k : MW E M d tgt lv st h mc ms Q) : MW E M d pc lv (.int x :: st) h mc ms Q := by
  intro p e R s m args below meth c H locs ls A cb sb Z hp hz
  exact lv_tableOut hp.1.1 hp.1.2.1 hd h1 ht (k p e R s m args below meth c H locs ls A cb sb Z hp hz)
end Switch
/-- Java's % -/
def rmd (x y : Int32) : Int32 := x - x / y * y
/-- the first divisor of both from m down -/
def slr (up lo told : Int32) : Nat → Int32
  | 0 => told
  | m + 1 => if 1 < nI (m + 1) ∧ rmd up (nI (m + 1)) = 0 ∧ rmd lo (nI (m + 1)) = 0 then told / nI (m + 1) else slr up lo told m
theorem nI_ne {m : Nat} (h : m + 1 < 2 ^ 31) : ¬ nI (m + 1) = 0 := nI_ne0 (by omega) h
section Side
variable {E : mi_E} {h : va_W} {d mc ms : Nat}
set_option maxHeartbeats 2000000 in
theorem l_side {up lo side told : Int32} : ∀ (m : Nat), m ≤ 100 → MW E MX5_sideInLowestTerms d 13 [some (.int up), some (.int lo), some (.int side), some (.int told), some (.int (nI m))] [] h mc ms (rt (some (.int (slr up lo told m))) h mc ms) := by
  intro m
  induction m with
  | zero =>
    intro hm
    refine MW.iload dX5_sideInLowestTerms_13 rfl ?_
    refine MW.iconst (v := 1) dX5_sideInLowestTerms_15 (by decide) ?_
    refine MW.icmp_le 44 dX5_sideInLowestTerms_16 (by decide) (fun hc16 => ?_) (fun hc16 => absurd (show (nI 0 : Int32) ≤ 1 by decide) hc16)
    refine MW.iload_n dX5_sideInLowestTerms_44 rfl ?_
    exact MW.ireturn dX5_sideInLowestTerms_45 rfl (rfl) rt_r
  | succ m ih =>
    intro hm
    have hne : ¬ nI (m + 1) = 0 := nI_ne (by omega)
    refine MW.iload dX5_sideInLowestTerms_13 rfl ?_
    refine MW.iconst (v := 1) dX5_sideInLowestTerms_15 (by decide) ?_
    refine MW.icmp_le 44 dX5_sideInLowestTerms_16 (by decide) (fun hc16 => ?_) (fun hc16 => ?_)
    · skip
      refine MW.iload_n dX5_sideInLowestTerms_44 rfl ?_
      exact MW.ireturn dX5_sideInLowestTerms_45 rfl (rfl) (rt_e (by
  have hm0 : m = 0 := by
    rcases Nat.eq_zero_or_pos m with z | z
    · exact z
    · exact absurd hc16 (nI_ge (a := 1) (by omega) (by omega))
  subst hm0
  exact (if_neg (fun z => absurd z.1 (Int32.not_lt.mpr hc16)))))
    · skip
      refine MW.iload_n dX5_sideInLowestTerms_19 rfl ?_
      refine MW.iload dX5_sideInLowestTerms_20 rfl ?_
      refine MW.irem dX5_sideInLowestTerms_22 (hne) ?_
      refine MW.if_ne 38 dX5_sideInLowestTerms_23 (by decide) (fun hc23 => ?_) (fun hc23 => ?_)
      · skip
        refine MW.iincd dX5_sideInLowestTerms_38 rfl rfl rfl ?_
        refine MW.goto 13 dX5_sideInLowestTerms_41 (by decide) ?_
        refine MW.mono (ih (by omega)) (fun o h1 mc1 ms1 z => ?_)
        rw [show slr up lo told (m + 1) = slr up lo told m from if_neg (fun y => by first | exact absurd y.2.1 (by assumption) | exact absurd y.2.2 (by assumption))]
        exact z
      · skip
        refine MW.iload_n dX5_sideInLowestTerms_26 rfl ?_
        refine MW.iload dX5_sideInLowestTerms_27 rfl ?_
        refine MW.irem dX5_sideInLowestTerms_29 (hne) ?_
        refine MW.if_ne 38 dX5_sideInLowestTerms_30 (by decide) (fun hc30 => ?_) (fun hc30 => ?_)
        · skip
          refine MW.iincd dX5_sideInLowestTerms_38 rfl rfl rfl ?_
          refine MW.goto 13 dX5_sideInLowestTerms_41 (by decide) ?_
          refine MW.mono (ih (by omega)) (fun o h1 mc1 ms1 z => ?_)
          rw [show slr up lo told (m + 1) = slr up lo told m from if_neg (fun y => by first | exact absurd y.2.1 (by assumption) | exact absurd y.2.2 (by assumption))]
          exact z
        · skip
          refine MW.iload_n dX5_sideInLowestTerms_33 rfl ?_
          refine MW.iload dX5_sideInLowestTerms_34 rfl ?_
          refine MW.idiv dX5_sideInLowestTerms_36 (hne) ?_
          exact MW.ireturn dX5_sideInLowestTerms_37 rfl (rfl) (rt_e (if_pos ⟨Int32.not_le.mp hc16, hc23, hc30⟩))
theorem c_side {up side : Int32} {m : Nat} (hm : m ≤ 100) : MC E MX5_sideInLowestTerms d [.int up, .int (nI m), .int side] h mc ms (rt (some (.int (slr up (nI m) (if side = 0 then up else nI m) m))) h mc ms) := by
  show MW _ _ _ 0 [some (.int up), some (.int (nI m)), some (.int side), none, none] [] _ _ _ _
  refine MW.iload_n dX5_sideInLowestTerms_0 rfl ?_
  refine MW.if_ne 8 dX5_sideInLowestTerms_1 (by decide) (fun hc1 => ?_) (fun hc1 => ?_)
  · skip
    refine MW.iload_n dX5_sideInLowestTerms_8 rfl ?_
    refine MW.istore_n dX5_sideInLowestTerms_9 rfl rfl ?_
    refine MW.iload_n dX5_sideInLowestTerms_10 rfl ?_
    refine MW.istore dX5_sideInLowestTerms_11 rfl rfl ?_
    first
      | (rw [if_pos hc1]; exact l_side m hm)
      | (rw [if_neg hc1]; exact l_side m hm)
  · skip
    refine MW.iload_n dX5_sideInLowestTerms_4 rfl ?_
    refine MW.goto 9 dX5_sideInLowestTerms_5 (by decide) ?_
    refine MW.istore_n dX5_sideInLowestTerms_9 rfl rfl ?_
    refine MW.iload_n dX5_sideInLowestTerms_10 rfl ?_
    refine MW.istore dX5_sideInLowestTerms_11 rfl rfl ?_
    first
      | (rw [if_pos hc1]; exact l_side m hm)
      | (rw [if_neg hc1]; exact l_side m hm)
end Side
section Face3
variable {l : Launch} {D : va_G} {t : ty4} {b L : Nat} {xs : Nat → Int32} {q : Nat → Nat} {i : Nat → Int32} {a : Nat → Nat → Int32} {w : Int64} {d mc ms : Nat}
set_option maxHeartbeats 2000000 in
theorem c_axle_x1 {x s : Int32} (h1 : ¬ ((0 ≤ x ∧ x ≤ 1) ∧ (0 ≤ s ∧ s ≤ 1))) (hmc : mc + 1 ≤ mi_CC) (hms : ms + 6 ≤ mi_CS) : MC (En l D t b L xs) MX5_axle 20 [.ref (q 0), .int x, .int s] (hw t q i a w) mc ms (xt 1 (hw t q i a w) mc ms) := by
  show MW _ _ _ 0 [some (.ref (q 0)), some (.int x), some (.int s)] [] _ _ _ _
  refine MW.iload_n dX5_axle_0 rfl ?_
  refine MW.iconst (v := 0) dX5_axle_1 (by decide) ?_
  refine MW.iconst (v := 1) dX5_axle_2 (by decide) ?_
  by_cases hq3 : 0 ≤ x ∧ x ≤ 1
  · skip
    refine MW.callS0 fX5_axle_3 (c_rw_ok hq3) rfl rfl rfl rfl (Nat.le_of_ble_eq_true rfl) ?_
    refine MW.iload_n dX5_axle_6 rfl ?_
    refine MW.iconst (v := 0) dX5_axle_7 (by decide) ?_
    refine MW.iconst (v := 1) dX5_axle_8 (by decide) ?_
    by_cases hq9 : 0 ≤ s ∧ s ≤ 1
    · skip
      refine MW.callS0 fX5_axle_9 (c_rw_ok hq9) rfl rfl rfl rfl (Nat.le_of_ble_eq_true rfl) ?_
      exact absurd ⟨hq3, hq9⟩ h1
    · skip
      exact MW.thrS fX5_axle_9 (c_rw_no hq9 hmc hms) rfl rfl rfl rfl (Nat.le_of_ble_eq_true rfl) rfl xt_r
  · skip
    exact MW.thrS fX5_axle_3 (c_rw_no hq3 hmc hms) rfl rfl rfl rfl (Nat.le_of_ble_eq_true rfl) rfl xt_r
set_option maxHeartbeats 2000000 in
theorem c_axle_x4 {k : Nat} (hk : i 3 = nI k) (hk8 : k ≤ 8) {x s : Int32} (h1 : (0 ≤ x ∧ x ≤ 1) ∧ (0 ≤ s ∧ s ≤ 1)) (h2 : stn (a 7) k = 0) (hmc : mc + 1 ≤ mi_CC) (hms : ms + 6 ≤ mi_CS) : MC (En l D t b L xs) MX5_axle 20 [.ref (q 0), .int x, .int s] (hw t q i a w) mc ms (xt 4 (hw t q i a w) mc ms) := by
  show MW _ _ _ 0 [some (.ref (q 0)), some (.int x), some (.int s)] [] _ _ _ _
  refine MW.iload_n dX5_axle_0 rfl ?_
  refine MW.iconst (v := 0) dX5_axle_1 (by decide) ?_
  refine MW.iconst (v := 1) dX5_axle_2 (by decide) ?_
  refine MW.callS0 fX5_axle_3 (c_rw_ok h1.1) rfl rfl rfl rfl (Nat.le_of_ble_eq_true rfl) ?_
  refine MW.iload_n dX5_axle_6 rfl ?_
  refine MW.iconst (v := 0) dX5_axle_7 (by decide) ?_
  refine MW.iconst (v := 1) dX5_axle_8 (by decide) ?_
  refine MW.callS0 fX5_axle_9 (c_rw_ok h1.2) rfl rfl rfl rfl (Nat.le_of_ble_eq_true rfl) ?_
  refine MW.aload_n dX5_axle_12 rfl ?_
  refine MW.getf fX5_axle_13 0 rfl rfl ?_
  refine MW.callV1 fX5_axle_16 1 rfl (c_standing hk hk8) rfl rfl rfl rfl (Nat.le_of_ble_eq_true rfl) ?_
  refine MW.if_ne 32 dX5_axle_19 (by decide) (fun hc19 => absurd h2 hc19) (fun hc19 => ?_)
  exact MW.throwS fX5_axle_22 (Nat.le_of_ble_eq_true rfl) hmc hms xt_r
set_option maxHeartbeats 2000000 in
theorem c_axle_ok {k : Nat} (hk : i 3 = nI k) (hk8 : k ≤ 8) {x s : Int32} (h1 : (0 ≤ x ∧ x ≤ 1) ∧ (0 ≤ s ∧ s ≤ 1)) (h2 : ¬ stn (a 7) k = 0) {sp : Nat} (hsp : i 5 - i 4 = nI sp) (hsp1 : sp ≤ 100) : MC (En l D t b L xs) MX5_axle 20 [.ref (q 0), .int x, .int s] (hw t q i a w) mc ms (rt (some (.int (slr (axn (shr i x) (a 2) (a 7) k) (nI sp) (if s = 0 then axn (shr i x) (a 2) (a 7) k else nI sp) sp))) (hw t q i a w) mc ms) := by
  show MW _ _ _ 0 [some (.ref (q 0)), some (.int x), some (.int s)] [] _ _ _ _
  refine MW.iload_n dX5_axle_0 rfl ?_
  refine MW.iconst (v := 0) dX5_axle_1 (by decide) ?_
  refine MW.iconst (v := 1) dX5_axle_2 (by decide) ?_
  refine MW.callS0 fX5_axle_3 (c_rw_ok h1.1) rfl rfl rfl rfl (Nat.le_of_ble_eq_true rfl) ?_
  refine MW.iload_n dX5_axle_6 rfl ?_
  refine MW.iconst (v := 0) dX5_axle_7 (by decide) ?_
  refine MW.iconst (v := 1) dX5_axle_8 (by decide) ?_
  refine MW.callS0 fX5_axle_9 (c_rw_ok h1.2) rfl rfl rfl rfl (Nat.le_of_ble_eq_true rfl) ?_
  refine MW.aload_n dX5_axle_12 rfl ?_
  refine MW.getf fX5_axle_13 0 rfl rfl ?_
  refine MW.callV1 fX5_axle_16 1 rfl (c_standing hk hk8) rfl rfl rfl rfl (Nat.le_of_ble_eq_true rfl) ?_
  refine MW.if_ne 32 dX5_axle_19 (by decide) (fun hc19 => ?_) (fun hc19 => absurd hc19 h2)
  refine MW.aload_n dX5_axle_32 rfl ?_
  refine MW.getf fX5_axle_33 0 rfl rfl ?_
  refine MW.iload_n dX5_axle_36 rfl ?_
  refine MW.callV1 fX5_axle_37 1 rfl (c_onAxle hk hk8) rfl rfl rfl rfl (Nat.le_of_ble_eq_true rfl) ?_
  refine MW.aload_n dX5_axle_40 rfl ?_
  refine MW.getf fX5_axle_41 0 rfl rfl ?_
  refine MW.getf fX5_axle_44 1 rfl rfl ?_
  refine MW.callV1 fX5_axle_47 5 rfl (c_span) rfl rfl rfl rfl (Nat.le_of_ble_eq_true rfl) ?_
  refine MW.top (v' := .int (nI sp)) (by rw [hsp]) ?_
  refine MW.iload_n dX5_axle_50 rfl ?_
  refine MW.callS1 fX5_axle_51 (c_side hsp1) rfl rfl rfl rfl (Nat.le_of_ble_eq_true rfl) ?_
  exact MW.ireturn dX5_axle_54 rfl (rfl) rt_r
set_option maxHeartbeats 2000000 in
theorem c_count_0 {k : Nat} (hk : i 3 = nI k) (hk8 : k ≤ 8) : MC (En l D t b L xs) MX5_count 20 [.ref (q 0), .int 0] (hw t q i a w) mc ms (rt (some (.int (i 2))) (hw t q i a w) mc ms) := by
  show MW _ _ _ 0 [some (.ref (q 0)), some (.int 0)] [] _ _ _ _
  refine MW.iload_n dX5_count_0 rfl ?_
  refine MW.tableIn 40 dX5_count_1 (by decide) (by decide) rfl (by decide) ?_
  refine MW.aload_n dX5_count_40 rfl ?_
  refine MW.getf fX5_count_41 0 rfl rfl ?_
  refine MW.getf fX5_count_44 1 rfl rfl ?_
  exact MW.ireturn dX5_count_47 rfl (rfl) (by first | exact rt_r | exact rtb_t (by assumption) | exact rtb_f (fun z => z (by assumption)))
set_option maxHeartbeats 2000000 in
theorem c_count_1 {k : Nat} (hk : i 3 = nI k) (hk8 : k ≤ 8) : MC (En l D t b L xs) MX5_count 20 [.ref (q 0), .int 1] (hw t q i a w) mc ms (rt (some (.int (i 3))) (hw t q i a w) mc ms) := by
  show MW _ _ _ 0 [some (.ref (q 0)), some (.int 1)] [] _ _ _ _
  refine MW.iload_n dX5_count_0 rfl ?_
  refine MW.tableIn 48 dX5_count_1 (by decide) (by decide) rfl (by decide) ?_
  refine MW.aload_n dX5_count_48 rfl ?_
  refine MW.getf fX5_count_49 0 rfl rfl ?_
  refine MW.getf fX5_count_52 1 rfl rfl ?_
  exact MW.ireturn dX5_count_55 rfl (rfl) (by first | exact rt_r | exact rtb_t (by assumption) | exact rtb_f (fun z => z (by assumption)))
set_option maxHeartbeats 2000000 in
theorem c_count_2 {k : Nat} (hk : i 3 = nI k) (hk8 : k ≤ 8) : MC (En l D t b L xs) MX5_count 20 [.ref (q 0), .int 2] (hw t q i a w) mc ms (rt (some (.int (stn (a 7) k))) (hw t q i a w) mc ms) := by
  show MW _ _ _ 0 [some (.ref (q 0)), some (.int 2)] [] _ _ _ _
  refine MW.iload_n dX5_count_0 rfl ?_
  refine MW.tableIn 56 dX5_count_1 (by decide) (by decide) rfl (by decide) ?_
  refine MW.aload_n dX5_count_56 rfl ?_
  refine MW.getf fX5_count_57 0 rfl rfl ?_
  refine MW.callV1 fX5_count_60 1 rfl (c_standing hk hk8) rfl rfl rfl rfl (Nat.le_of_ble_eq_true rfl) ?_
  exact MW.ireturn dX5_count_63 rfl (rfl) (by first | exact rt_r | exact rtb_t (by assumption) | exact rtb_f (fun z => z (by assumption)))
set_option maxHeartbeats 2000000 in
theorem c_count_3 {k : Nat} (hk : i 3 = nI k) (hk8 : k ≤ 8) : MC (En l D t b L xs) MX5_count 20 [.ref (q 0), .int 3] (hw t q i a w) mc ms (rt (some (.int (bI (¬ i 0 = 0)))) (hw t q i a w) mc ms) := by
  show MW _ _ _ 0 [some (.ref (q 0)), some (.int 3)] [] _ _ _ _
  refine MW.iload_n dX5_count_0 rfl ?_
  refine MW.tableIn 64 dX5_count_1 (by decide) (by decide) rfl (by decide) ?_
  refine MW.aload_n dX5_count_64 rfl ?_
  refine MW.getf fX5_count_65 0 rfl rfl ?_
  refine MW.if_eq 75 dX5_count_68 (by decide) (fun hc68 => ?_) (fun hc68 => ?_)
  · skip
    refine MW.iconst (v := 0) dX5_count_75 (by decide) ?_
    exact MW.ireturn dX5_count_76 rfl (rfl) (by first | exact rt_r | exact rtb_t (by assumption) | exact rtb_f (fun z => z (by assumption)))
  · skip
    refine MW.iconst (v := 1) dX5_count_71 (by decide) ?_
    refine MW.goto 76 dX5_count_72 (by decide) ?_
    exact MW.ireturn dX5_count_76 rfl (rfl) (by first | exact rt_r | exact rtb_t (by assumption) | exact rtb_f (fun z => z (by assumption)))
set_option maxHeartbeats 2000000 in
theorem c_count_4 {k : Nat} (hk : i 3 = nI k) (hk8 : k ≤ 8) : MC (En l D t b L xs) MX5_count 20 [.ref (q 0), .int 4] (hw t q i a w) mc ms (rt (some (.int (i 11))) (hw t q i a w) mc ms) := by
  show MW _ _ _ 0 [some (.ref (q 0)), some (.int 4)] [] _ _ _ _
  refine MW.iload_n dX5_count_0 rfl ?_
  refine MW.tableIn 77 dX5_count_1 (by decide) (by decide) rfl (by decide) ?_
  refine MW.aload_n dX5_count_77 rfl ?_
  refine MW.getf fX5_count_78 0 rfl rfl ?_
  refine MW.getf fX5_count_81 16 rfl rfl ?_
  exact MW.ireturn dX5_count_84 rfl (rfl) (by first | exact rt_r | exact rtb_t (by assumption) | exact rtb_f (fun z => z (by assumption)))
set_option maxHeartbeats 2000000 in
theorem c_count_5 {k : Nat} (hk : i 3 = nI k) (hk8 : k ≤ 8) : MC (En l D t b L xs) MX5_count 20 [.ref (q 0), .int 5] (hw t q i a w) mc ms (rt (some (.int (i 10))) (hw t q i a w) mc ms) := by
  show MW _ _ _ 0 [some (.ref (q 0)), some (.int 5)] [] _ _ _ _
  refine MW.iload_n dX5_count_0 rfl ?_
  refine MW.tableIn 85 dX5_count_1 (by decide) (by decide) rfl (by decide) ?_
  refine MW.aload_n dX5_count_85 rfl ?_
  refine MW.getf fX5_count_86 0 rfl rfl ?_
  refine MW.getf fX5_count_89 16 rfl rfl ?_
  exact MW.ireturn dX5_count_92 rfl (rfl) (by first | exact rt_r | exact rtb_t (by assumption) | exact rtb_f (fun z => z (by assumption)))
set_option maxHeartbeats 2000000 in
theorem c_count_x {x : Int32} (h1 : x.toInt < 0 ∨ 5 < x.toInt) : MC (En l D t b L xs) MX5_count 20 [.ref (q 0), .int x] (hw t q i a w) mc ms (rt (some (.int (-1))) (hw t q i a w) mc ms) := by
  show MW _ _ _ 0 [some (.ref (q 0)), some (.int x)] [] _ _ _ _
  refine MW.iload_n dX5_count_0 rfl ?_
  refine MW.tableOut 93 dX5_count_1 h1 (by decide) ?_
  refine MW.iconst (v := -1) dX5_count_93 (by decide) ?_
  exact MW.ireturn dX5_count_94 rfl (rfl) rt_r
end Face3
