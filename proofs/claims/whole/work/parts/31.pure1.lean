/-! Numbers without wrap-around, sums, and what bars a pallet: class and reference alike. -/
theorem i32_add {x y : Int32} (h1 : -2147483648 ≤ x.toInt + y.toInt) (h2 : x.toInt + y.toInt < 2147483648) : (x + y).toInt = x.toInt + y.toInt := by
  rw [Int32.toInt_add]
  exact Int.bmod_eq_of_le (by omega) (by omega)
theorem i32_sub {x y : Int32} (h1 : -2147483648 ≤ x.toInt - y.toInt) (h2 : x.toInt - y.toInt < 2147483648) : (x - y).toInt = x.toInt - y.toInt := by
  rw [Int32.toInt_sub]
  exact Int.bmod_eq_of_le (by omega) (by omega)
theorem i32_mul {x y : Int32} (h1 : -2147483648 ≤ x.toInt * y.toInt) (h2 : x.toInt * y.toInt < 2147483648) : (x * y).toInt = x.toInt * y.toInt := by
  rw [Int32.toInt_mul]
  exact Int.bmod_eq_of_le (by omega) (by omega)
theorem i32_eq {x y : Int32} (h : x.toInt = y.toInt) : x = y := Int32.toInt_inj.mp h
theorem t0 : (0 : Int32).toInt = 0 := by decide
theorem tm1 : (-1 : Int32).toInt = -1 := by decide
theorem t1 : (1 : Int32).toInt = 1 := by decide
/-- the sum of the first k -/
def sumZ (f : Nat → Int) : Nat → Int
  | 0 => 0
  | n + 1 => sumZ f n + f n
theorem sumZ_c {f g : Nat → Int} : ∀ {k : Nat}, (∀ m, m < k → f m = g m) → sumZ f k = sumZ g k
  | 0, _ => rfl
  | k + 1, h => by
    show sumZ f k + f k = sumZ g k + g k
    rw [sumZ_c (fun m hm => h m (by omega)), h k (by omega)]
/-- how many stand -/
def stN (wh : Nat → Int32) : Nat → Nat
  | 0 => 0
  | n + 1 => if wh n = -1 then stN wh n else stN wh n + 1
theorem stN_le (wh : Nat → Int32) : ∀ k, stN wh k ≤ k
  | 0 => Nat.le_refl _
  | k + 1 => by
    have := stN_le wh k
    show (if wh k = -1 then stN wh k else stN wh k + 1) ≤ k + 1
    split <;> omega
theorem stn_N (wh : Nat → Int32) : ∀ k, stn wh k = nI (stN wh k)
  | 0 => rfl
  | k + 1 => by
    have := stn_N wh k
    show (if wh k = -1 then stn wh k else stn wh k + 1) = nI (if wh k = -1 then stN wh k else stN wh k + 1)
    split
    · exact this
    · rw [this, nI_1]
/-- what they weigh -/
def wtN (W : Nat → Nat) (wh : Nat → Int32) : Nat → Nat
  | 0 => 0
  | n + 1 => if wh n = -1 then wtN W wh n else wtN W wh n + W n
theorem wtn_N {wt : Nat → Int32} {W : Nat → Nat} (wh : Nat → Int32) : ∀ {k : Nat}, (∀ m, m < k → wt m = nI (W m)) → wtn wt wh k = nI (wtN W wh k)
  | 0, _ => rfl
  | k + 1, h => by
    have := wtn_N (W := W) wh (k := k) (fun m hm => h m (by omega))
    show (if wh k = -1 then wtn wt wh k else wtn wt wh k + wt k) = nI (if wh k = -1 then wtN W wh k else wtN W wh k + W k)
    split
    · exact this
    · rw [this, h k (by omega), nI_add]
theorem wtN_le {W : Nat → Nat} (wh : Nat → Int32) {B : Nat} : ∀ {k : Nat}, (∀ m, m < k → W m ≤ B) → wtN W wh k ≤ B * k
  | 0, _ => Nat.le_refl _
  | k + 1, h => by
    have := wtN_le (W := W) wh (B := B) (k := k) (fun m hm => h m (by omega))
    have h9 := h k (by omega)
    show (if wh k = -1 then wtN W wh k else wtN W wh k + W k) ≤ B * (k + 1)
    rw [Nat.mul_succ]
    split <;> omega
theorem stn_c {f g : Nat → Int32} : ∀ {k : Nat}, (∀ m, m < k → f m = g m) → stn f k = stn g k
  | 0, _ => rfl
  | k + 1, h => by
    show (if f k = -1 then stn f k else stn f k + 1) = (if g k = -1 then stn g k else stn g k + 1)
    rw [stn_c (fun m hm => h m (by omega)), h k (by omega)]
theorem wtn_c {u v f g : Nat → Int32} : ∀ {k : Nat}, (∀ m, m < k → u m = v m) → (∀ m, m < k → f m = g m) → wtn u f k = wtn v g k
  | 0, _, _ => rfl
  | k + 1, h1, h => by
    show (if f k = -1 then wtn u f k else wtn u f k + u k) = (if g k = -1 then wtn v g k else wtn v g k + v k)
    rw [wtn_c (fun m hm => h1 m (by omega)) (fun m hm => h m (by omega)), h k (by omega), h1 k (by omega)]
theorem axn_c {G K : Int32 → Int32 → Int32} {u v f g : Nat → Int32} : ∀ {k : Nat}, (∀ x y, G x y = K x y) → (∀ m, m < k → u m = v m) → (∀ m, m < k → f m = g m) → axn G u f k = axn K v g k
  | 0, _, _, _ => rfl
  | k + 1, h0, h1, h => by
    show (if f k = -1 then axn G u f k else axn G u f k + G (u k) (f k)) = (if g k = -1 then axn K v g k else axn K v g k + K (v k) (g k))
    rw [axn_c h0 (fun m hm => h1 m (by omega)) (fun m hm => h m (by omega)), h k (by omega), h1 k (by omega), h0]
/-- a sum of bounded contributions, without wrap-around -/
theorem axn_Z {G : Int32 → Int32 → Int32} {wt wh : Nat → Int32} {f : Nat → Int} : ∀ {k : Nat}, k ≤ 8 → (∀ m, m < k → wh m = -1 → f m = 0) → (∀ m, m < k → ¬ wh m = -1 → (G (wt m) (wh m)).toInt = f m) → (∀ m, m < k → -200000 ≤ f m ∧ f m ≤ 200000) →
    (axn G wt wh k).toInt = sumZ f k ∧ -200000 * (k : Int) ≤ sumZ f k ∧ sumZ f k ≤ 200000 * (k : Int)
  | 0, _, _, _, _ => ⟨t0, by show (-200000 * ((0 : Nat) : Int)) ≤ 0; decide, by show (0 : Int) ≤ 200000 * ((0 : Nat) : Int); decide⟩
  | k + 1, hk, h0, h1, h2 => by
    obtain ⟨e1, e2, e3⟩ := axn_Z (G := G) (wt := wt) (wh := wh) (f := f) (k := k) (by omega) (fun m hm => h0 m (by omega)) (fun m hm => h1 m (by omega)) (fun m hm => h2 m (by omega))
    obtain ⟨b1, b2⟩ := h2 k (by omega)
    have hs : sumZ f (k + 1) = sumZ f k + f k := rfl
    have hk8 : (k : Int) ≤ 7 := by omega
    refine ⟨?_, by rw [hs]; omega, by rw [hs]; omega⟩
    show (if wh k = -1 then axn G wt wh k else axn G wt wh k + G (wt k) (wh k)).toInt = _
    split
    · next h => rw [hs, h0 k (by omega) h, e1]; omega
    · next h =>
      have e4 := h1 k (by omega) h
      rw [i32_add (by rw [e1, e4]; omega) (by rw [e1, e4]; omega), e1, e4, hs]
/-! What bars a pallet. -/
theorem ab_1 {y : Int32} : ab y = 1 ↔ y = 1 ∨ y = -1 := by
  unfold ab
  by_cases h : 0 ≤ y
  · rw [if_pos h]
    exact ⟨Or.inl, fun z => z.elim id (fun z => absurd h (by rw [z]; decide))⟩
  · rw [if_neg h]
    constructor
    · intro z
      right
      have : y = 0 - (0 - y) := by rw [Int32.zero_sub, Int32.zero_sub, Int32.neg_neg]
      rw [this, z]
      decide
    · rintro (z | z)
      · exact absurd (by rw [z]; decide) h
      · rw [z]; decide
theorem sub_1 {x c : Int32} : x - c = 1 ↔ x = c + 1 := by
  constructor
  · intro h
    rw [← h, Int32.add_comm, Int32.sub_add_cancel]
  · intro h
    rw [h, Int32.add_comm, Int32.add_sub_cancel]
theorem sub_m1 {x c : Int32} : x - c = -1 ↔ x = c - 1 := by
  constructor
  · intro h
    have : x = (x - c) + c := by rw [Int32.sub_add_cancel]
    rw [this, h, Int32.add_comm, Int32.sub_eq_add_neg]
  · intro h
    rw [h, Int32.sub_eq_add_neg c 1, Int32.add_comm, Int32.add_sub_cancel]
/-- the rows that don't move are the same -/
def Sm (a aa : Nat → Nat → Int32) (k : Nat) : Prop := (∀ m, m < 12 → aa 10 m = a 0 m ∧ aa 11 m = a 1 m) ∧ ∀ m, m < k → aa 12 m = a 2 m ∧ aa 13 m = a 3 m ∧ aa 14 m = a 4 m ∧ aa 15 m = a 5 m ∧ aa 16 m = a 6 m
section Ko
variable {a aa : Nat → Nat → Int32} {k j m : Nat} {wh wh' : Nat → Int32} {c : Int32}
theorem ko_1 (h : ∀ p, p < k → p ≠ j → wh' p = wh p) (hm : m < 12) : ko (au aa 17 wh') k j (nI m) 1 ↔ ∃ p, p < k ∧ p ≠ j ∧ wh p = nI m := by
  constructor
  · rintro ⟨p, h1, h2, -, h4⟩
    exact ⟨p, h1, h2, by rw [← h p h1 h2]; exact h4⟩
  · rintro ⟨p, h1, h2, h4⟩
    have e : wh' p = nI m := by rw [h p h1 h2]; exact h4
    exact ⟨p, h1, h2, fun z => nI_m1 (by omega) (e.symm.trans z), e⟩
theorem ko_2 (hS : Sm a aa k) (hj : j < k) (hm : m < 12) : ko (au aa 17 wh') k j (nI m) 2 ↔ a 0 m < a 6 j := by
  show aa 10 (nI m).toNatClampNeg < aa 16 j ↔ _
  rw [nI_clamp (by omega), (hS.1 m hm).1, (hS.2 j hj).2.2.2.2]
theorem ko_3 (hS : Sm a aa k) (hj : j < k) (hm : m < 12) : ko (au aa 17 wh') k j (nI m) 3 ↔ (¬ a 3 j = 0 ∧ a 1 m = 0) := by
  show (¬ aa 13 j = 0 ∧ aa 11 (nI m).toNatClampNeg = 0) ↔ _
  rw [nI_clamp (by omega), (hS.1 m hm).2, (hS.2 j hj).2.1]
theorem ko_4 (hS : Sm a aa k) (hj : j < k) (h : ∀ p, p < k → p ≠ j → wh' p = wh p) : ko (au aa 17 wh') k j c 4 ↔ dgP (a 4) wh k j c := by
  constructor
  · rintro ⟨p, h1, h2, h3, h4, h5, h6⟩
    have e : wh' p = wh p := h p h1 h2
    have h3 : ¬ wh' p = -1 := h3
    have h4 : ¬ aa 14 j = 0 := h4
    have h5 : ¬ aa 14 p = 0 := h5
    have h6 : wh' p = c + 1 ∨ wh' p = c - 1 := h6
    rw [e] at h3 h6
    rw [(hS.2 j hj).2.2.1] at h4
    rw [(hS.2 p h1).2.2.1] at h5
    exact ⟨p, h1, h2, h3, h4, h5, ab_1.mpr (h6.elim (fun z => Or.inl (sub_1.mpr z)) (fun z => Or.inr (sub_m1.mpr z)))⟩
  · rintro ⟨p, h1, h2, h3, h4, h5, h6⟩
    have e : wh' p = wh p := h p h1 h2
    refine ⟨p, h1, h2, ?_, ?_, ?_, ?_⟩
    · show ¬ wh' p = -1; rw [e]; exact h3
    · show ¬ aa 14 j = 0; rw [(hS.2 j hj).2.2.1]; exact h4
    · show ¬ aa 14 p = 0; rw [(hS.2 p h1).2.2.1]; exact h5
    · show wh' p = c + 1 ∨ wh' p = c - 1
      rw [e]
      exact (ab_1.mp h6).elim (fun z => Or.inl (sub_1.mp z)) (fun z => Or.inr (sub_m1.mp z))
theorem ko_5 (hS : Sm a aa k) (hj : j < k) (h : ∀ p, p < k → p ≠ j → wh' p = wh p) : ko (au aa 17 wh') k j c 5 ↔ spP (a 5) wh k j (a 5 j) c := by
  constructor
  · rintro ⟨p, h1, h2, h3, h4⟩
    have e : wh' p = wh p := h p h1 h2
    have h3 : ¬ wh' p = -1 := h3
    have h4 : aa 15 j < aa 15 p ∧ c < wh' p ∨ aa 15 p < aa 15 j ∧ wh' p < c := h4
    rw [e] at h3 h4
    rw [(hS.2 j hj).2.2.2.1, (hS.2 p h1).2.2.2.1] at h4
    exact ⟨p, h1, h2, h3, h4.symm⟩
  · rintro ⟨p, h1, h2, h3, h4⟩
    have e : wh' p = wh p := h p h1 h2
    refine ⟨p, h1, h2, ?_, ?_⟩
    · show ¬ wh' p = -1; rw [e]; exact h3
    · show aa 15 j < aa 15 p ∧ c < wh' p ∨ aa 15 p < aa 15 j ∧ wh' p < c
      rw [e, (hS.2 j hj).2.2.2.1, (hS.2 p h1).2.2.2.1]
      exact h4.symm
theorem fb_0 : fb a k j m = 0 ↔ ¬ (¬ a 7 j = nI m ∧ ∃ m', m' < k ∧ a 7 m' = nI m) ∧ ¬ (a 0 m < a 6 j) ∧ ¬ (¬ a 3 j = 0 ∧ a 1 m = 0) ∧ ¬ dgP (a 4) (a 7) k j (nI m) ∧ ¬ spP (a 5) (a 7) k j (a 5 j) (nI m) := by
  unfold fb
  by_cases h1 : ¬ a 7 j = nI m ∧ ∃ m', m' < k ∧ a 7 m' = nI m
  · rw [cI_t h1]; exact ⟨fun z => absurd z (by decide), fun z => absurd h1 z.1⟩
  rw [cI_f h1]
  by_cases h2 : a 0 m < a 6 j
  · rw [cI_t h2]; exact ⟨fun z => absurd z (by decide), fun z => absurd h2 z.2.1⟩
  rw [cI_f h2]
  by_cases h3 : ¬ a 3 j = 0 ∧ a 1 m = 0
  · rw [cI_t h3]; exact ⟨fun z => absurd z (by decide), fun z => absurd h3 z.2.2.1⟩
  rw [cI_f h3]
  by_cases h4 : dgP (a 4) (a 7) k j (nI m)
  · rw [cI_t h4]; exact ⟨fun z => absurd z (by decide), fun z => absurd h4 z.2.2.2.1⟩
  rw [cI_f h4]
  by_cases h5 : spP (a 5) (a 7) k j (a 5 j) (nI m)
  · rw [cI_t h5]; exact ⟨fun z => absurd z (by decide), fun z => absurd h5 z.2.2.2.2⟩
  rw [cI_f h5]
  exact ⟨fun _ => ⟨h1, h2, h3, h4, h5⟩, fun _ => rfl⟩
/-- in the search: the pallet j isn't placed yet -/
theorem fb_ft (hS : Sm a aa k) (hj : j < k) (hm : m < 12) (h : ∀ p, p < k → p ≠ j → wh' p = wh p) (hw : wh j = -1) : fb (au a 7 wh) k j m = 0 ↔ ftP (au aa 17 wh') k j m := by
  rw [fb_0]
  show (¬ (¬ wh j = nI m ∧ ∃ m', m' < k ∧ wh m' = nI m) ∧ ¬ (a 0 m < a 6 j) ∧ ¬ (¬ a 3 j = 0 ∧ a 1 m = 0) ∧ ¬ dgP (a 4) wh k j (nI m) ∧ ¬ spP (a 5) wh k j (a 5 j) (nI m)) ↔ _
  rw [← ko_2 (wh' := wh') hS hj hm, ← ko_3 (wh' := wh') hS hj hm, ← ko_4 hS hj h, ← ko_5 hS hj h]
  have e1 : (¬ wh j = nI m ∧ ∃ m', m' < k ∧ wh m' = nI m) ↔ ko (au aa 17 wh') k j (nI m) 1 := by
    rw [ko_1 h hm]
    constructor
    · rintro ⟨h1, p, h2, h3⟩
      exact ⟨p, h2, fun z => h1 (z ▸ h3), h3⟩
    · rintro ⟨p, h2, h4, h3⟩
      exact ⟨by rw [hw]; exact fun z => nI_m1 (by omega) z.symm, p, h2, h3⟩
  rw [e1]
  constructor
  · rintro ⟨h1, h2, h3, h4, h5⟩ u u1 u5
    match u, u1, u5 with
    | 1, _, _ => exact h1
    | 2, _, _ => exact h2
    | 3, _, _ => exact h3
    | 4, _, _ => exact h4
    | 5, _, _ => exact h5
    | 0, u1, _ => exact absurd u1 (by omega)
    | u + 6, _, u5 => exact absurd u5 (by omega)
  · intro z
    exact ⟨z 1 (by omega) (by omega), z 2 (by omega) (by omega), z 3 (by omega) (by omega), z 4 (by omega) (by omega), z 5 (by omega) (by omega)⟩
/-- by rule: no pallet stands in the cell -/
theorem fb_rk (hS : Sm a aa k) (hj : j < k) (hm : m < 12) (h : ∀ p, p < k → wh' p = wh p) (hw : ∀ p, p < k → ¬ wh p = nI m) : fb (au a 7 wh) k j m = 0 ↔ ¬ rkP (au aa 17 wh') k j m := by
  rw [fb_0]
  show (¬ (¬ wh j = nI m ∧ ∃ m', m' < k ∧ wh m' = nI m) ∧ ¬ (a 0 m < a 6 j) ∧ ¬ (¬ a 3 j = 0 ∧ a 1 m = 0) ∧ ¬ dgP (a 4) wh k j (nI m) ∧ ¬ spP (a 5) wh k j (a 5 j) (nI m)) ↔ _
  rw [← ko_2 (wh' := wh') hS hj hm, ← ko_3 (wh' := wh') hS hj hm, ← ko_4 hS hj (fun p h1 _ => h p h1), ← ko_5 hS hj (fun p h1 _ => h p h1)]
  constructor
  · rintro ⟨-, h2, h3, h4, h5⟩ z
    exact z.elim h2 (fun z => z.elim h3 (fun z => z.elim h4 h5))
  · intro z
    exact ⟨fun ⟨_, p, h1, h2⟩ => hw p h1 h2, fun y => z (Or.inl y), fun y => z (Or.inr (Or.inl y)), fun y => z (Or.inr (Or.inr (Or.inl y))), fun y => z (Or.inr (Or.inr (Or.inr y)))⟩
/-- with pallets in cells of their own: the same first thing -/
theorem fb_sf (hS : Sm a aa k) (hj : j < k) (hm : m < 12) (h : ∀ p, p < k → aa 17 p = a 7 p) (hd : ∀ p, p < k → a 7 p = a 7 j → ¬ a 7 p = -1 → p = j) {y : Int32} : sfd (ko aa k j (nI m)) y 5 1 = cI (fb a k j m = 0) y (fb a k j m) := by
  have e7 : au a 7 (a 7) = a := au_self
  have e17 : au aa 17 (aa 17) = aa := au_self
  have h' : ∀ p, p < k → p ≠ j → aa 17 p = a 7 p := fun p h1 _ => h p h1
  have k1 : ko aa k j (nI m) 1 ↔ (¬ a 7 j = nI m ∧ ∃ m', m' < k ∧ a 7 m' = nI m) := by
    have := ko_1 (aa := aa) (wh' := aa 17) (wh := a 7) h' hm
    rw [e17] at this
    rw [this]
    constructor
    · rintro ⟨p, h2, h4, h3⟩
      exact ⟨fun z => h4 (hd p h2 (h3.trans z.symm) (by rw [h3]; exact nI_m1 (by omega))), p, h2, h3⟩
    · rintro ⟨h1, p, h2, h3⟩
      exact ⟨p, h2, fun z => h1 (z ▸ h3), h3⟩
  have k2 := ko_2 (wh' := aa 17) hS hj hm
  have k3 := ko_3 (wh' := aa 17) hS hj hm
  have k4 := ko_4 (c := nI m) hS hj h'
  have k5 := ko_5 (c := nI m) hS hj h'
  rw [e17] at k2 k3 k4 k5
  have e1 : sfd (ko aa k j (nI m)) y 5 1 = cI (ko aa k j (nI m) 1) 1 (cI (ko aa k j (nI m) 2) 2 (cI (ko aa k j (nI m) 3) 3 (cI (ko aa k j (nI m) 4) 4 (cI (ko aa k j (nI m) 5) 5 y)))) := rfl
  rw [e1, propext k1, propext k2, propext k3, propext k4, propext k5]
  unfold fb
  by_cases h1 : ¬ a 7 j = nI m ∧ ∃ m', m' < k ∧ a 7 m' = nI m
  · rw [cI_t h1, cI_t h1, cI_f (by decide)]
  rw [cI_f h1, cI_f h1]
  by_cases h2 : a 0 m < a 6 j
  · rw [cI_t h2, cI_t h2, cI_f (by decide)]
  rw [cI_f h2, cI_f h2]
  by_cases h3 : ¬ a 3 j = 0 ∧ a 1 m = 0
  · rw [cI_t h3, cI_t h3, cI_f (by decide)]
  rw [cI_f h3, cI_f h3]
  by_cases h4 : dgP (a 4) (a 7) k j (nI m)
  · rw [cI_t h4, cI_t h4, cI_f (by decide)]
  rw [cI_f h4, cI_f h4]
  by_cases h5 : spP (a 5) (a 7) k j (a 5 j) (nI m)
  · rw [cI_t h5, cI_t h5, cI_f (by decide)]
  rw [cI_f h5, cI_f h5, cI_t rfl]
end Ko
