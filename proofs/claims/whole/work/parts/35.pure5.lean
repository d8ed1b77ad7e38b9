/-! axle: the class's lowest terms are the reference's. -/
theorem rm_0 {up : Int32} {d : Nat} (hup : -2147483648 < up.toInt) (hd : 2 ≤ d) (hd2 : d ≤ 100) : rmd up (nI d) = 0 ↔ d ∣ up.toInt.natAbs := by
  have hD : (nI d).toInt = (d : Int) := nI_toInt (by omega)
  have hb := Int32.toInt_lt up
  have ha := Int32.le_toInt up
  have h1 : (up.toInt.tdiv d).natAbs = up.toInt.natAbs / d := by rw [Int.natAbs_tdiv]; rfl
  have h2 : (up.toInt.tmod d).natAbs = up.toInt.natAbs % d := by rw [Int.natAbs_tmod]; rfl
  have h3 : (d : Int) * up.toInt.tdiv d + up.toInt.tmod d = up.toInt := Int.mul_tdiv_add_tmod ..
  have h4 : up.toInt.natAbs / d ≤ up.toInt.natAbs / 2 := Nat.div_le_div_left hd (by omega)
  have h5 : up.toInt.natAbs / d * d ≤ up.toInt.natAbs := Nat.div_mul_le_self ..
  have q1 : (up / nI d).toInt = up.toInt.tdiv d := by
    rw [Int32.toInt_div, hD]
    exact Int.bmod_eq_of_le (by omega) (by omega)
  have q2 : (up.toInt.tdiv d * (d : Int)).natAbs = up.toInt.natAbs / d * d := by rw [Int.natAbs_mul, h1]; rfl
  have q3 : (up / nI d * nI d).toInt = up.toInt.tdiv d * d := by
    rw [i32_mul (by rw [q1, hD]; omega) (by rw [q1, hD]; omega), q1, hD]
  have h7 : up.toInt.natAbs % d < d := Nat.mod_lt _ (by omega)
  have h6 : (d : Int) * up.toInt.tdiv d = up.toInt.tdiv d * d := Int.mul_comm ..
  have q4 : (rmd up (nI d)).toInt = up.toInt.tmod d := by
    unfold rmd
    rw [i32_sub (by rw [q3]; omega) (by rw [q3]; omega), q3]
    omega
  constructor
  · intro h
    rw [h, t0] at q4
    apply Nat.dvd_of_mod_eq_zero
    rw [← h2, ← q4]
    rfl
  · intro h
    apply i32_eq
    rw [q4, t0]
    have := Nat.mod_eq_zero_of_dvd h
    rw [this] at h2
    exact Int.natAbs_eq_zero.mp h2
theorem div_1 (x : Int32) : x / nI 1 = x := by
  apply i32_eq
  rw [Int32.toInt_div, show (nI 1).toInt = 1 from t1, Int.tdiv_one]
  have hb := Int32.toInt_lt x
  have ha := Int32.le_toInt x
  exact Int.bmod_eq_of_le (by omega) (by omega)
theorem slr_g {up told : Int32} {sp : Nat} (hup : -2147483648 < up.toInt) (h1 : 1 ≤ sp) (h2 : sp ≤ 100) : ∀ m, Nat.gcd up.toInt.natAbs sp ≤ m → m ≤ sp → slr up (nI sp) told m = told / nI (Nat.gcd up.toInt.natAbs sp)
  | 0, h, _ => absurd (Nat.gcd_pos_of_pos_right up.toInt.natAbs (show 0 < sp by omega)) (by omega)
  | m + 1, h, hm => by
    have hg := Nat.gcd_pos_of_pos_right up.toInt.natAbs (show 0 < sp by omega)
    have hsp : (nI sp).toInt.natAbs = sp := by rw [nI_toInt (by omega)]; rfl
    have hs2 : -2147483648 < (nI sp).toInt := by rw [nI_toInt (by omega)]; omega
    by_cases he : m + 1 = Nat.gcd up.toInt.natAbs sp
    · by_cases hm0 : m = 0
      · subst hm0
        rw [← he, show slr up (nI sp) told (0 + 1) = slr up (nI sp) told 0 from if_neg (fun z => absurd z.1 (by decide))]
        exact (div_1 told).symm
      · rw [show slr up (nI sp) told (m + 1) = told / nI (m + 1) from if_pos ⟨nI_lt (a := 1) (by omega) (by omega), (rm_0 hup (by omega) (by omega)).mpr (he ▸ Nat.gcd_dvd_left ..), (rm_0 hs2 (by omega) (by omega)).mpr (by rw [hsp]; exact he ▸ Nat.gcd_dvd_right ..)⟩, he]
    · rw [show slr up (nI sp) told (m + 1) = slr up (nI sp) told m from if_neg (fun z => ?_)]
      · exact slr_g hup h1 h2 m (by omega) (by omega)
      · have hm2 : 2 ≤ m + 1 := by omega
        have k1 := (rm_0 hup hm2 (by omega)).mp z.2.1
        have k2 := (rm_0 hs2 hm2 (by omega)).mp z.2.2
        rw [hsp] at k2
        have := Nat.le_of_dvd hg (Nat.dvd_gcd k1 k2)
        omega
/-- a number as a natural with a sign -/
theorem sgn (x : Int32) (h : -2147483648 < x.toInt) : x.toInt.natAbs < 2 ^ 31 ∧ (x = nI x.toInt.natAbs ∨ x = -nI x.toInt.natAbs) := by
  have hb := Int32.toInt_lt x
  have h1 : x.toInt.natAbs < 2 ^ 31 := by omega
  refine ⟨h1, ?_⟩
  by_cases h0 : 0 ≤ x.toInt
  · left
    apply i32_eq
    rw [nI_toInt h1]
    omega
  · right
    apply i32_eq
    rw [sb_negT h1]
    omega
/-! Class and reference hold the same. -/
def Lm (i : Nat → Int32) : Prop := ∃ x y : Nat, x ≤ 10000 ∧ y ≤ 10000 ∧ i 6 = nI x ∧ i 7 = nI y
def Rel (i : Nat → Int32) (a : Nat → Nat → Int32) (n k g : Nat) : Prop :=
  (n ≤ 12 ∧ k ≤ 8 ∧ g ≤ 10) ∧ (i 2 = nI n ∧ i 3 = nI k ∧ i 10 = nI g ∧ i 12 = nI n ∧ i 17 = nI k ∧ i 22 = nI g) ∧ (i 20 = i 0 ∧ i 21 = i 11 ∧ i 19 = i 1 ∧ (i 0 = 0 ∨ i 0 = 1) ∧ (i 1 = 0 ∨ i 1 = 1)) ∧
  (∃ f s, Ax i i f s) ∧ Lm i ∧ Sm a a k ∧ (∃ W, Wt a a W k) ∧ Vl (a 7) n k ∧ (∀ m, m < k → a 17 m = a 7 m) ∧ (∀ m, k ≤ m → m < 8 → a 7 m = -1) ∧ ∀ m, m < g → a 19 m = a 9 m
theorem Rel_18 {i : Nat → Int32} {a : Nat → Nat → Int32} {n k g : Nat} {x : Int32} (h : Rel i a n k g) : Rel (upd i 18 x) a n k g := h
section OpDefs
variable (l : Launch) (D : va_G) (t : ty4) (b L : Nat) (xs : Nat → Int32) (q : Nat → Nat) (i : Nat → Int32) (a : Nat → Nat → Int32) (w : Int64) (n mc ms : Nat)
/-- what the law's two calls do: an int told -/
def OpI (ML MM : mi_M) (As : List Value) : Prop := ∃ (kk v : Int32) (i1 i2 : Nat → Int32) (a1 a2 : Nat → Nat → Int32) (w1 : Int64) (mc1 ms1 k2 g2 : Nat), MC (En l D t b L xs) ML 21 (.ref (q 0) :: (As ++ [.ref (q 29)])) (hw t q i a w) mc ms (rt (some (.int kk)) (hw t q i1 a1 w1) mc1 ms1) ∧ MC (En l D t b L xs) MM 21 (.ref (q 18) :: As) (hw t q i1 a1 w1) mc1 ms1 (rt (some (.int v)) (hw t q i2 a2 w1) mc1 ms1) ∧ i2 18 = kk ∧ (kk = 0 → w1 = v.toInt64) ∧ Rel i2 a2 n k2 g2 ∧ mc1 ≤ mc + 1 ∧ ms1 ≤ ms + 6
/-- .. a boolean told -/
def OpB (ML MM : mi_M) (As : List Value) : Prop := ∃ (kk v : Int32) (i1 i2 : Nat → Int32) (a1 a2 : Nat → Nat → Int32) (w1 : Int64) (mc1 ms1 k2 g2 : Nat), MC (En l D t b L xs) ML 21 (.ref (q 0) :: (As ++ [.ref (q 29)])) (hw t q i a w) mc ms (rt (some (.int kk)) (hw t q i1 a1 w1) mc1 ms1) ∧ MC (En l D t b L xs) MM 21 (.ref (q 18) :: As) (hw t q i1 a1 w1) mc1 ms1 (rt (some (.int v)) (hw t q i2 a2 w1) mc1 ms1) ∧ i2 18 = kk ∧ (kk = 0 → w1 = bL v) ∧ Rel i2 a2 n k2 g2 ∧ mc1 ≤ mc + 1 ∧ ms1 ≤ ms + 6
/-- .. nothing told -/
def OpV (ML MM : mi_M) (As : List Value) : Prop := ∃ (kk : Int32) (i1 i2 : Nat → Int32) (a1 a2 : Nat → Nat → Int32) (w1 : Int64) (mc1 ms1 k2 g2 : Nat), MC (En l D t b L xs) ML 21 (.ref (q 0) :: As) (hw t q i a w) mc ms (rt (some (.int kk)) (hw t q i1 a1 w1) mc1 ms1) ∧ MC (En l D t b L xs) MM 21 (.ref (q 18) :: As) (hw t q i1 a1 w1) mc1 ms1 (rt none (hw t q i2 a2 w1) mc1 ms1) ∧ i2 18 = kk ∧ Rel i2 a2 n k2 g2 ∧ mc1 ≤ mc + 1 ∧ ms1 ≤ ms + 6
end OpDefs
section OpUse
variable {l : Launch} {D : va_G} {t : ty4} {b L : Nat} {xs : Nat → Int32} {q : Nat → Nat} {i : Nat → Int32} {a : Nat → Nat → Int32} {w : Int64} {n k g mc ms : Nat} {ML MM : mi_M} {As : List Value}
theorem OpI.thr {kk : Int32} (h0 : ¬ kk = 0) (hR : Rel i a n k g) (hc : MC (En l D t b L xs) ML 21 (.ref (q 0) :: (As ++ [.ref (q 29)])) (hw t q i a w) mc ms (rt (some (.int kk)) (hw t q i a w) (mc + 1) (ms + 6))) (hm : MC (En l D t b L xs) MM 20 (.ref (q 18) :: As) (hw t q i a w) (mc + 1) (ms + 6) (rt (some (.int 0)) (hw t q (upd i 18 kk) a w) (mc + 1) (ms + 6))) : OpI l D t b L xs q i a w n mc ms ML MM As :=
  ⟨kk, 0, i, _, a, _, w, _, _, k, g, hc, MC.up (by omega) hm, rfl, fun z => absurd z h0, Rel_18 hR, Nat.le_refl _, Nat.le_refl _⟩
theorem OpB.thr {kk : Int32} (h0 : ¬ kk = 0) (hR : Rel i a n k g) (hc : MC (En l D t b L xs) ML 21 (.ref (q 0) :: (As ++ [.ref (q 29)])) (hw t q i a w) mc ms (rt (some (.int kk)) (hw t q i a w) (mc + 1) (ms + 6))) (hm : MC (En l D t b L xs) MM 20 (.ref (q 18) :: As) (hw t q i a w) (mc + 1) (ms + 6) (rt (some (.int 0)) (hw t q (upd i 18 kk) a w) (mc + 1) (ms + 6))) : OpB l D t b L xs q i a w n mc ms ML MM As :=
  ⟨kk, 0, i, _, a, _, w, _, _, k, g, hc, MC.up (by omega) hm, rfl, fun z => absurd z h0, Rel_18 hR, Nat.le_refl _, Nat.le_refl _⟩
theorem OpV.thr {kk : Int32} (hR : Rel i a n k g) (hc : MC (En l D t b L xs) ML 21 (.ref (q 0) :: As) (hw t q i a w) mc ms (rt (some (.int kk)) (hw t q i a w) (mc + 1) (ms + 6))) (hm : MC (En l D t b L xs) MM 20 (.ref (q 18) :: As) (hw t q i a w) (mc + 1) (ms + 6) (rt none (hw t q (upd i 18 kk) a w) (mc + 1) (ms + 6))) : OpV l D t b L xs q i a w n mc ms ML MM As :=
  ⟨kk, i, _, a, _, w, _, _, k, g, hc, MC.up (by omega) hm, rfl, Rel_18 hR, Nat.le_refl _, Nat.le_refl _⟩
theorem OpI.ret {v : Int32} {i1 i2 : Nat → Int32} {a1 a2 : Nat → Nat → Int32} {k2 g2 : Nat} (hc : MC (En l D t b L xs) ML 21 (.ref (q 0) :: (As ++ [.ref (q 29)])) (hw t q i a w) mc ms (rt (some (.int 0)) (hw t q i1 a1 v.toInt64) mc ms)) (hm : MC (En l D t b L xs) MM 20 (.ref (q 18) :: As) (hw t q i1 a1 v.toInt64) mc ms (rt (some (.int v)) (hw t q i2 a2 v.toInt64) mc ms)) (ht : i2 18 = 0) (hR : Rel i2 a2 n k2 g2) : OpI l D t b L xs q i a w n mc ms ML MM As :=
  ⟨0, v, i1, i2, a1, a2, _, mc, ms, k2, g2, hc, MC.up (by omega) hm, ht, fun _ => rfl, hR, Nat.le_succ _, by omega⟩
theorem OpB.ret {v : Int32} {i1 i2 : Nat → Int32} {a1 a2 : Nat → Nat → Int32} {k2 g2 : Nat} (hc : MC (En l D t b L xs) ML 21 (.ref (q 0) :: (As ++ [.ref (q 29)])) (hw t q i a w) mc ms (rt (some (.int 0)) (hw t q i1 a1 (bL v)) mc ms)) (hm : MC (En l D t b L xs) MM 20 (.ref (q 18) :: As) (hw t q i1 a1 (bL v)) mc ms (rt (some (.int v)) (hw t q i2 a2 (bL v)) mc ms)) (ht : i2 18 = 0) (hR : Rel i2 a2 n k2 g2) : OpB l D t b L xs q i a w n mc ms ML MM As :=
  ⟨0, v, i1, i2, a1, a2, _, mc, ms, k2, g2, hc, MC.up (by omega) hm, ht, fun _ => rfl, hR, Nat.le_succ _, by omega⟩
theorem OpV.ret {i1 i2 : Nat → Int32} {a1 a2 : Nat → Nat → Int32} {k2 g2 : Nat} (hc : MC (En l D t b L xs) ML 21 (.ref (q 0) :: As) (hw t q i a w) mc ms (rt (some (.int 0)) (hw t q i1 a1 w) mc ms)) (hm : MC (En l D t b L xs) MM 20 (.ref (q 18) :: As) (hw t q i1 a1 w) mc ms (rt none (hw t q i2 a2 w) mc ms)) (ht : i2 18 = 0) (hR : Rel i2 a2 n k2 g2) : OpV l D t b L xs q i a w n mc ms ML MM As :=
  ⟨0, i1, i2, a1, a2, _, mc, ms, k2, g2, hc, MC.up (by omega) hm, ht, hR, Nat.le_succ _, by omega⟩
end OpUse
