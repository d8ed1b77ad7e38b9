/-- a call that throws what k says, or returns v in the world h' -/
def rx (k : Option Nat) (v : Option Value) (h' h : va_W) (mc ms : Nat) : mi_O → va_W → Nat → Nat → Prop := fun o h1 mc1 ms1 => match k with
  | none => rt v h' mc ms o h1 mc1 ms1
  | some x => xt x h mc ms o h1 mc1 ms1
theorem rx_t {k : Option Nat} {x : Nat} {v : Option Value} {h' h : va_W} {mc ms : Nat} (e : k = some x) : rx k v h' h mc ms (.inr x) h (mc + 1) (ms + 6) := by rw [e]; exact xt_r
theorem rx_r {k : Option Nat} {v v' : Option Value} {h' h h1 : va_W} {mc ms : Nat} (e : k = none) (ev : v' = v) (eh : h1 = h') : rx k v h' h mc ms (.inl v') h1 mc ms := by rw [e, ev, eh]; exact rt_r
theorem dp_eq {r d : Nat} : dp r d = d + 3 + 2 * r := by
  induction r with
  | zero => rfl
  | succ r ih => show dp r d + 2 = _; rw [ih]; omega
/-- a number below another is a natural -/
theorem in_n {c : Int32} {n : Nat} (hn : n < 2 ^ 31) (h : 0 ≤ c ∧ c < nI n) : ∃ m : Nat, m < n ∧ c = nI m := by
  rcases pk_ix c hn with z | z | z
  · exact absurd h.1 (Int32.not_le.mpr z)
  · exact absurd h.2 (Int32.not_lt.mpr z)
  · exact z
section Guards
variable {E : mi_E} {h : va_W} {d mc ms : Nat}
theorem c_rw_ok {x lo hi : Int32} (hx : lo ≤ x ∧ x ≤ hi)  : MC E MX5_requireWithin d [.int x, .int lo, .int hi] h mc ms (rt none h mc ms) := by
  show MW _ _ _ 0 [some (.int x), some (.int lo), some (.int hi)] [] _ _ _ _
  refine MW.iload_n dX5_requireWithin_0 rfl ?_
  refine MW.iload_n dX5_requireWithin_1 rfl ?_
  refine MW.icmp_lt 10 dX5_requireWithin_2 (by decide) (fun hc2 => absurd hc2 (Int32.not_lt.mpr hx.1)) (fun hc2 => ?_)
  refine MW.iload_n dX5_requireWithin_5 rfl ?_
  refine MW.iload_n dX5_requireWithin_6 rfl ?_
  refine MW.icmp_le 20 dX5_requireWithin_7 (by decide) (fun hc7 => ?_) (fun hc7 => absurd hx.2 hc7)
  exact MW.vreturn dX5_requireWithin_20 rfl (by first | exact rt_r | exact absurd ⟨Int32.not_lt.mp hc2, hc7⟩ hx)
theorem c_rw_no {x lo hi : Int32} (hx : ¬ (lo ≤ x ∧ x ≤ hi)) (hmc : mc + 1 ≤ mi_CC) (hms : ms + 6 ≤ mi_CS) : MC E MX5_requireWithin (d + 8) [.int x, .int lo, .int hi] h mc ms (xt 1 h mc ms) := by
  show MW _ _ _ 0 [some (.int x), some (.int lo), some (.int hi)] [] _ _ _ _
  refine MW.iload_n dX5_requireWithin_0 rfl ?_
  refine MW.iload_n dX5_requireWithin_1 rfl ?_
  refine MW.icmp_lt 10 dX5_requireWithin_2 (by decide) (fun hc2 => ?_) (fun hc2 => ?_)
  · skip
    exact MW.throwS fX5_requireWithin_10 (Nat.le_of_ble_eq_true rfl) hmc hms xt_r
  · skip
    refine MW.iload_n dX5_requireWithin_5 rfl ?_
    refine MW.iload_n dX5_requireWithin_6 rfl ?_
    refine MW.icmp_le 20 dX5_requireWithin_7 (by decide) (fun hc7 => ?_) (fun hc7 => ?_)
    · skip
      exact MW.vreturn dX5_requireWithin_20 rfl (by first | exact rt_r | exact absurd ⟨Int32.not_lt.mp hc2, hc7⟩ hx)
    · skip
      exact MW.throwS fX5_requireWithin_10 (Nat.le_of_ble_eq_true rfl) hmc hms xt_r
end Guards
section Face1
variable {l : Launch} {D : va_G} {t : ty4} {b L : Nat} {xs : Nat → Int32} {q : Nat → Nat} {i : Nat → Int32} {a : Nat → Nat → Int32} {w : Int64} {d mc ms : Nat}
set_option maxHeartbeats 1000000 in
theorem c_isOn : MC (En l D t b L xs) MX3_isOn d [.ref (q 16)] (hw t q i a w) mc ms (rt (some (.int (bI (¬ i 11 = 0)))) (hw t q i a w) mc ms) := by
  show MW _ _ _ 0 [some (.ref (q 16))] [] _ _ _ _
  refine MW.aload_n dX3_isOn_0 rfl ?_
  refine MW.getf fX3_isOn_1 16 rfl rfl ?_
  refine MW.if_eq 11 dX3_isOn_4 (by decide) (fun hc4 => ?_) (fun hc4 => ?_)
  · skip
    refine MW.iconst (v := 0) dX3_isOn_11 (by decide) ?_
    exact MW.ireturn dX3_isOn_12 rfl (rfl) (by first | exact rtb_t (by assumption) | exact rtb_f (fun z => z (by assumption)))
  · skip
    refine MW.iconst (v := 1) dX3_isOn_7 (by decide) ?_
    refine MW.goto 12 dX3_isOn_8 (by decide) ?_
    exact MW.ireturn dX3_isOn_12 rfl (rfl) (by first | exact rtb_t (by assumption) | exact rtb_f (fun z => z (by assumption)))
theorem c_rs_ok (hx : i 0 = 0)  : MC (En l D t b L xs) MX5_requireShut d [.ref (q 0)] (hw t q i a w) mc ms (rt none (hw t q i a w) mc ms) := by
  show MW _ _ _ 0 [some (.ref (q 0))] [] _ _ _ _
  refine MW.aload_n dX5_requireShut_0 rfl ?_
  refine MW.getf fX5_requireShut_1 0 rfl rfl ?_
  refine MW.if_eq 17 dX5_requireShut_4 (by decide) (fun hc4 => ?_) (fun hc4 => absurd hx hc4)
  exact MW.vreturn dX5_requireShut_17 rfl rt_r
theorem c_rs_no (hx : ¬ i 0 = 0) (hmc : mc + 1 ≤ mi_CC) (hms : ms + 6 ≤ mi_CS) : MC (En l D t b L xs) MX5_requireShut (d + 8) [.ref (q 0)] (hw t q i a w) mc ms (xt 2 (hw t q i a w) mc ms) := by
  show MW _ _ _ 0 [some (.ref (q 0))] [] _ _ _ _
  refine MW.aload_n dX5_requireShut_0 rfl ?_
  refine MW.getf fX5_requireShut_1 0 rfl rfl ?_
  refine MW.if_eq 17 dX5_requireShut_4 (by decide) (fun hc4 => absurd hc4 hx) (fun hc4 => ?_)
  exact MW.throwS fX5_requireShut_7 (Nat.le_of_ble_eq_true rfl) hmc hms xt_r
theorem c_rn_ok (hx : i 11 = 0)  : MC (En l D t b L xs) MX5_requireNoSeal (d + 1) [.ref (q 0)] (hw t q i a w) mc ms (rt none (hw t q i a w) mc ms) := by
  show MW _ _ _ 0 [some (.ref (q 0))] [] _ _ _ _
  refine MW.aload_n dX5_requireNoSeal_0 rfl ?_
  refine MW.getf fX5_requireNoSeal_1 0 rfl rfl ?_
  refine MW.callV1 fX5_requireNoSeal_4 16 rfl (c_isOn) rfl rfl rfl rfl (Nat.le_of_ble_eq_true rfl) ?_
  refine MW.if_eq 20 dX5_requireNoSeal_7 (by decide) (fun hc7 => ?_) (fun hc7 => absurd (bI_0.mpr (fun z => z hx)) hc7)
  exact MW.vreturn dX5_requireNoSeal_20 rfl rt_r
theorem c_rn_no (hx : ¬ i 11 = 0) (hmc : mc + 1 ≤ mi_CC) (hms : ms + 6 ≤ mi_CS) : MC (En l D t b L xs) MX5_requireNoSeal (d + 8) [.ref (q 0)] (hw t q i a w) mc ms (xt 2 (hw t q i a w) mc ms) := by
  show MW _ _ _ 0 [some (.ref (q 0))] [] _ _ _ _
  refine MW.aload_n dX5_requireNoSeal_0 rfl ?_
  refine MW.getf fX5_requireNoSeal_1 0 rfl rfl ?_
  refine MW.callV1 fX5_requireNoSeal_4 16 rfl (c_isOn) rfl rfl rfl rfl (Nat.le_of_ble_eq_true rfl) ?_
  refine MW.if_eq 20 dX5_requireNoSeal_7 (by decide) (fun hc7 => absurd hc7 (fun z => zz z hx)) (fun hc7 => ?_)
  exact MW.throwS fX5_requireNoSeal_10 (Nat.le_of_ble_eq_true rfl) hmc hms xt_r
theorem c_kp_ok {k : Nat} (hk : i 3 = nI k) (hk8 : k ≤ 8) {j : Nat} (hj : j < k) : MC (En l D t b L xs) MX5_knownPallet d [.ref (q 0), .int (nI j)] (hw t q i a w) mc ms (rt (some (.ref (q (6 + j)))) (hw t q i a w) mc ms) := by
  show MW _ _ _ 0 [some (.ref (q 0)), some (.int (nI j))] [] _ _ _ _
  refine MW.iload_n dX5_knownPallet_0 rfl ?_
  refine MW.if_lt 15 dX5_knownPallet_1 (by decide) (fun hc1 => absurd hc1 (nI_pos (by omega))) (fun hc1 => ?_)
  refine MW.iload_n dX5_knownPallet_4 rfl ?_
  refine MW.aload_n dX5_knownPallet_5 rfl ?_
  refine MW.getf fX5_knownPallet_6 0 rfl rfl ?_
  refine MW.getf fX5_knownPallet_9 1 rfl rfl ?_
  refine MW.icmp_lt 25 dX5_knownPallet_12 (by decide) (fun hc12 => ?_) (fun hc12 => absurd (show nI j < i 3 by rw [hk]; exact nI_lt hj (by omega)) hc12)
  refine MW.aload_n dX5_knownPallet_25 rfl ?_
  refine MW.getf fX5_knownPallet_26 0 rfl rfl ?_
  refine MW.getf fX5_knownPallet_29 1 rfl rfl ?_
  refine MW.iload_n dX5_knownPallet_32 rfl ?_
  refine MW.row dX5_knownPallet_33 (show j < 8 by omega) ?_
  exact MW.areturn dX5_knownPallet_34 rfl (Or.inl ⟨_, rfl⟩) rt_r
theorem c_kp_no {k : Nat} (hk : i 3 = nI k) (hk8 : k ≤ 8) {x : Int32} (hx : ¬ (0 ≤ x ∧ x < nI k)) (hmc : mc + 1 ≤ mi_CC) (hms : ms + 6 ≤ mi_CS) : MC (En l D t b L xs) MX5_knownPallet (d + 8) [.ref (q 0), .int x] (hw t q i a w) mc ms (xt 0 (hw t q i a w) mc ms) := by
  show MW _ _ _ 0 [some (.ref (q 0)), some (.int x)] [] _ _ _ _
  refine MW.iload_n dX5_knownPallet_0 rfl ?_
  refine MW.if_lt 15 dX5_knownPallet_1 (by decide) (fun hc1 => ?_) (fun hc1 => ?_)
  · skip
    exact MW.throwN hmc hms xt_r
  · skip
    refine MW.iload_n dX5_knownPallet_4 rfl ?_
    refine MW.aload_n dX5_knownPallet_5 rfl ?_
    refine MW.getf fX5_knownPallet_6 0 rfl rfl ?_
    refine MW.getf fX5_knownPallet_9 1 rfl rfl ?_
    refine MW.icmp_lt 25 dX5_knownPallet_12 (by decide) (fun hc12 => ?_) (fun hc12 => ?_)
    · skip
      exact absurd ⟨Int32.not_lt.mp hc1, by rw [← hk]; exact hc12⟩ hx
    · skip
      exact MW.throwN hmc hms xt_r
set_option maxHeartbeats 2000000 in
theorem l_wasOn {g : Nat} (hg : i 10 = nI g) (hg10 : g ≤ 10) {x : Int32} : ∀ (r j : Nat), j + r = g → (∀ m, m < j → ¬ a 9 m = x) → MW (En l D t b L xs) MX3_wasOn d 2 [some (.ref (q 16)), some (.int x), some (.int (nI j))] [] (hw t q i a w) mc ms (rt (some (.int (bI (∃ m, m < g ∧ a 9 m = x)))) (hw t q i a w) mc ms) := by
  intro r
  induction r with
  | zero =>
    intro j hr hI
    refine MW.iload_n dX3_wasOn_2 rfl ?_
    refine MW.aload_n dX3_wasOn_3 rfl ?_
    refine MW.getf fX3_wasOn_4 16 rfl rfl ?_
    refine MW.icmp_ge 28 dX3_wasOn_7 (by decide) (fun hc7 => ?_) (fun hc7 => absurd (show i 10 ≤ nI j by rw [hg]; exact nI_le (by omega) (by omega)) hc7)
    refine MW.iconst (v := 0) dX3_wasOn_28 (by decide) ?_
    exact MW.ireturn dX3_wasOn_29 rfl (rfl) (rtb_f (fun ⟨m, h1, h2⟩ => hI m (by omega) h2))
  | succ r ih =>
    intro j hr hI
    have hj : j < 10 := by omega
    refine MW.iload_n dX3_wasOn_2 rfl ?_
    refine MW.aload_n dX3_wasOn_3 rfl ?_
    refine MW.getf fX3_wasOn_4 16 rfl rfl ?_
    refine MW.icmp_ge 28 dX3_wasOn_7 (by decide) (fun hc7 => absurd hc7 (show ¬ i 10 ≤ nI j by rw [hg]; exact nI_ge (by omega) (by omega))) (fun hc7 => ?_)
    refine MW.aload_n dX3_wasOn_10 rfl ?_
    refine MW.getf fX3_wasOn_11 16 rfl rfl ?_
    refine MW.iload_n dX3_wasOn_14 rfl ?_
    refine MW.iaj dX3_wasOn_15 17 0 rfl rfl hj (by decide) ?_
    refine MW.iload_n dX3_wasOn_16 rfl ?_
    refine MW.icmp_ne 22 dX3_wasOn_17 (by decide) (fun hc17 => ?_) (fun hc17 => ?_)
    · skip
      refine MW.iincj dX3_wasOn_22 rfl rfl rfl ?_
      refine MW.goto 2 dX3_wasOn_25 (by decide) ?_
      exact ih (j + 1) (by omega) (lt_s hI (by assumption))
    · skip
      refine MW.iconst (v := 1) dX3_wasOn_20 (by decide) ?_
      exact MW.ireturn dX3_wasOn_21 rfl (rfl) (rtb_t ⟨j, by omega, by assumption⟩)
theorem c_wasOn {g : Nat} (hg : i 10 = nI g) (hg10 : g ≤ 10) {x : Int32} : MC (En l D t b L xs) MX3_wasOn d [.ref (q 16), .int x] (hw t q i a w) mc ms (rt (some (.int (bI (∃ m, m < g ∧ a 9 m = x)))) (hw t q i a w) mc ms) := by
  show MW _ _ _ 0 [some (.ref (q 16)), some (.int x), none] [] _ _ _ _
  refine MW.iconst (v := 0) dX3_wasOn_0 (by decide) ?_
  refine MW.istore_n dX3_wasOn_1 rfl rfl ?_
  exact l_wasOn hg hg10 g 0 (by omega) (fun m h => absurd h (by omega))
set_option maxHeartbeats 1000000 in
theorem c_putOn {g : Nat} (hg : i 10 = nI g) (hg10 : g ≤ 10) (hg9 : g < 10) {x : Int32} : MC (En l D t b L xs) MX3_putOn d [.ref (q 16), .int x] (hw t q i a w) mc ms (rt none (hw t q (upd (upd i 10 (nI (g + 1))) 11 x) (au a 9 (upd (a 9) g x)) w) mc ms) := by
  show MW _ _ _ 0 [some (.ref (q 16)), some (.int x)] [] _ _ _ _
  refine MW.aload_n dX3_putOn_0 rfl ?_
  refine MW.getf fX3_putOn_1 16 rfl rfl ?_
  refine MW.bipush (v := 10) dX3_putOn_4 (by decide) ?_
  refine MW.icmp_ge 34 dX3_putOn_6 (by decide) (fun hc6 => absurd hc6 (show ¬ (10 : Int32) ≤ i 10 by rw [hg]; exact nI_ge (b := 10) hg9 (by omega))) (fun hc6 => ?_)
  refine MW.aload_n dX3_putOn_9 rfl ?_
  refine MW.getf fX3_putOn_10 16 rfl rfl ?_
  refine MW.aload_n dX3_putOn_13 rfl ?_
  refine MW.getf fX3_putOn_14 16 rfl rfl ?_
  refine MW.top (v' := .int (nI g)) (by rw [hg]) ?_
  refine MW.iload_n dX3_putOn_17 rfl ?_
  refine MW.isj dX3_putOn_18 17 0 rfl rfl hg9 (by decide) ?_
  refine MW.heap hw_a17 ?_
  refine MW.aload_n dX3_putOn_19 rfl ?_
  refine MW.dup dX3_putOn_20 rfl ?_
  refine MW.getf fX3_putOn_21 16 rfl rfl ?_
  refine MW.iconst (v := 1) dX3_putOn_24 (by decide) ?_
  refine MW.iadd dX3_putOn_25 ?_
  refine MW.top (v' := .int (nI (g + 1))) (by show Value.int (i 10 + 1) = _; rw [hg, nI_1]) ?_
  refine MW.putf fX3_putOn_26 16 rfl (rfl) (rfl) rfl ?_
  refine MW.heap hw_s3_1 ?_
  refine MW.aload_n dX3_putOn_29 rfl ?_
  refine MW.iload_n dX3_putOn_30 rfl ?_
  refine MW.putf fX3_putOn_31 16 rfl (rfl) (rfl) rfl ?_
  refine MW.heap hw_s3_2 ?_
  exact MW.vreturn dX3_putOn_34 rfl rt_r
theorem c_takeOff : MC (En l D t b L xs) MX3_takeOff d [.ref (q 16)] (hw t q i a w) mc ms (rt (some (.int (i 11))) (hw t q (upd i 11 0) a w) mc ms) := by
  show MW _ _ _ 0 [some (.ref (q 16)), none] [] _ _ _ _
  refine MW.aload_n dX3_takeOff_0 rfl ?_
  refine MW.getf fX3_takeOff_1 16 rfl rfl ?_
  refine MW.istore_n dX3_takeOff_4 rfl rfl ?_
  refine MW.aload_n dX3_takeOff_5 rfl ?_
  refine MW.iconst (v := 0) dX3_takeOff_6 (by decide) ?_
  refine MW.putf fX3_takeOff_7 16 rfl (rfl) (rfl) rfl ?_
  refine MW.heap hw_s3_2 ?_
  refine MW.iload_n dX3_takeOff_10 rfl ?_
  exact MW.ireturn dX3_takeOff_11 rfl (rfl) rt_r
theorem c_axset {x y z v : Int32} : MC (En l D t b L xs) MX0_set d [.ref (q 5), .int x, .int y, .int z, .int v] (hw t q i a w) mc ms (rt none (hw t q (upd (upd (upd (upd i 4 x) 5 y) 6 z) 7 v) a w) mc ms) := by
  show MW _ _ _ 0 [some (.ref (q 5)), some (.int x), some (.int y), some (.int z), some (.int v)] [] _ _ _ _
  refine MW.aload_n dX0_set_0 rfl ?_
  refine MW.iload_n dX0_set_1 rfl ?_
  refine MW.putf fX0_set_2 5 rfl (rfl) (rfl) rfl ?_
  refine MW.heap hw_s0_0 ?_
  refine MW.aload_n dX0_set_5 rfl ?_
  refine MW.iload_n dX0_set_6 rfl ?_
  refine MW.putf fX0_set_7 5 rfl (rfl) (rfl) rfl ?_
  refine MW.heap hw_s0_1 ?_
  refine MW.aload_n dX0_set_10 rfl ?_
  refine MW.iload_n dX0_set_11 rfl ?_
  refine MW.putf fX0_set_12 5 rfl (rfl) (rfl) rfl ?_
  refine MW.heap hw_s0_2 ?_
  refine MW.aload_n dX0_set_15 rfl ?_
  refine MW.iload dX0_set_16 rfl ?_
  refine MW.putf fX0_set_18 5 rfl (rfl) (rfl) rfl ?_
  refine MW.heap hw_s0_3 ?_
  exact MW.vreturn dX0_set_21 rfl rt_r
theorem nar_b {x : Int32} (h : x = 0 ∨ x = 1) : narrow .boolean (.int x) = .int x := by rcases h with rfl | rfl <;> rfl
theorem fit_b {x : Int32} (h : x = 0 ∨ x = 1) : fits .boolean (.int x) = true := by rcases h with rfl | rfl <;> rfl
set_option maxHeartbeats 1000000 in
theorem c_palset {j : Nat} (hj : j < 8) {x y z s v : Int32} (hy : y = 0 ∨ y = 1) (hz : z = 0 ∨ z = 1) : MC (En l D t b L xs) MX2_set d [.ref (q (6 + j)), .int x, .int y, .int z, .int s, .int v] (hw t q i a w) mc ms (rt none (hw t q i (au (au (au (au (au a 2 (upd (a 2) j x)) 3 (upd (a 3) j y)) 4 (upd (a 4) j z)) 5 (upd (a 5) j s)) 6 (upd (a 6) j v)) w) mc ms) := by
  show MW _ _ _ 0 [some (.ref (q (6 + j))), some (.int x), some (.int y), some (.int z), some (.int s), some (.int v)] [] _ _ _ _
  refine MW.aload_n dX2_set_0 rfl ?_
  refine MW.iload_n dX2_set_1 rfl ?_
  refine MW.pp0 fX2_set_2 hj (rfl) (rfl) ?_
  refine MW.aload_n dX2_set_5 rfl ?_
  refine MW.iload_n dX2_set_6 rfl ?_
  refine MW.pp1 fX2_set_7 hj (nar_b hy) (fit_b hy) ?_
  refine MW.aload_n dX2_set_10 rfl ?_
  refine MW.iload_n dX2_set_11 rfl ?_
  refine MW.pp2 fX2_set_12 hj (nar_b hz) (fit_b hz) ?_
  refine MW.aload_n dX2_set_15 rfl ?_
  refine MW.iload dX2_set_16 rfl ?_
  refine MW.pp3 fX2_set_18 hj (rfl) (rfl) ?_
  refine MW.aload_n dX2_set_21 rfl ?_
  refine MW.iload dX2_set_22 rfl ?_
  refine MW.pp4 fX2_set_24 hj (rfl) (rfl) ?_
  exact MW.vreturn dX2_set_27 rfl rt_r
end Face1
