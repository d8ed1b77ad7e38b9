/-! The exact search: class and reference come to the same placing. -/
/-- the axles of the class (i) and of the reference (ii), in f and s -/
def Ax (i ii : Nat → Int32) (f s : Nat) : Prop := i 4 = nI f ∧ i 5 = nI s ∧ f < s ∧ s ≤ 100 ∧ ii 13 = i 4 ∧ ii 14 = i 5 ∧ ii 15 = i 6 ∧ ii 16 = i 7
/-- a placing: each pallet nowhere or in a cell of its own -/
def Vl (wh : Nat → Int32) (n k : Nat) : Prop := (∀ m, m < k → wh m = -1 ∨ ∃ c, c < n ∧ wh m = nI c) ∧ ∀ m p, m < k → p < k → wh m = wh p → ¬ wh m = -1 → m = p
/-- the weights -/
def Wt (a aa : Nat → Nat → Int32) (W : Nat → Nat) (k : Nat) : Prop := ∀ m, m < k → a 2 m = nI (W m) ∧ W m ≤ 1000 ∧ aa 12 m = a 2 m
theorem mul_bd {x y : Int} (h0 : 0 ≤ x) (h1 : x ≤ 1000) (h2 : -100 ≤ y) (h3 : y ≤ 100) : -100000 ≤ x * y ∧ x * y ≤ 100000 := by
  have e1 := Int.mul_le_mul_of_nonneg_left h3 h0
  have e2 := Int.mul_le_mul_of_nonneg_left h2 h0
  omega
theorem shm_a {i ii : Nat → Int32} {f s : Nat} (hA : Ax i ii f s) {x : Int32} (hx : x = 0 ∨ x = 1) (u c : Int32) : shm ii x u c = shr i x u c := by
  obtain ⟨-, -, -, -, e1, e2, -, -⟩ := hA
  rcases hx with rfl | rfl
  · show (if (0 : Int32) = 1 then u * (c - ii 13) else u * (ii 14 - c)) = (if (0 : Int32) = 0 then u * (i 5 - c) else u * (c - i 4))
    rw [if_neg (by decide), if_pos rfl, e2]
  · show (if (1 : Int32) = 1 then u * (c - ii 13) else u * (ii 14 - c)) = (if (1 : Int32) = 0 then u * (i 5 - c) else u * (c - i 4))
    rw [if_pos rfl, if_neg (by decide), e1]
theorem shr_0 {i ii : Nat → Int32} {f s : Nat} (hA : Ax i ii f s) {u c : Nat} (hu : u ≤ 1000) (hc : c ≤ 12) : (shr i 0 (nI u) (nI c)).toInt = (u : Int) * ((s : Int) - c) := by
  obtain ⟨e4, e5, h1, h2, -⟩ := hA
  show (if (0 : Int32) = 0 then nI u * (i 5 - nI c) else _).toInt = _
  rw [if_pos rfl, e5]
  have k1 := pk_sub_toInt (a := s) (b := c) (by omega) (by omega)
  have k2 := nI_toInt (n := u) (by omega)
  have k3 := mul_bd (x := u) (y := (s : Int) - c) (by omega) (by omega) (by omega) (by omega)
  rw [i32_mul (by rw [k1, k2]; omega) (by rw [k1, k2]; omega), k1, k2]
theorem shr_1 {i ii : Nat → Int32} {f s : Nat} (hA : Ax i ii f s) {u c : Nat} (hu : u ≤ 1000) (hc : c ≤ 12) : (shr i 1 (nI u) (nI c)).toInt = (u : Int) * ((c : Int) - f) := by
  obtain ⟨e4, e5, h1, h2, -⟩ := hA
  show (if (1 : Int32) = 0 then _ else nI u * (nI c - i 4)).toInt = _
  rw [if_neg (by decide), e4]
  have k1 := pk_sub_toInt (a := c) (b := f) (by omega) (by omega)
  have k2 := nI_toInt (n := u) (by omega)
  have k3 := mul_bd (x := u) (y := (c : Int) - f) (by omega) (by omega) (by omega) (by omega)
  rw [i32_mul (by rw [k1, k2]; omega) (by rw [k1, k2]; omega), k1, k2]
/-- what a pallet brings on an axle -/
def cn0 (W : Nat → Nat) (s : Nat) (wh : Nat → Int32) (m : Nat) : Int := if wh m = -1 then 0 else (W m : Int) * ((s : Int) - (wh m).toInt)
def cn1 (W : Nat → Nat) (f : Nat) (wh : Nat → Int32) (m : Nat) : Int := if wh m = -1 then 0 else (W m : Int) * ((wh m).toInt - f)
section Sums
variable {i ii : Nat → Int32} {a aa : Nat → Nat → Int32} {f s n k : Nat} {W : Nat → Nat} {wh wh' : Nat → Int32}
theorem ax_0 (hA : Ax i ii f s) (hk : k ≤ 8) (hn : n ≤ 12) (hW : Wt a aa W k) (hV : ∀ m, m < k → wh m = -1 ∨ ∃ c, c < n ∧ wh m = nI c) : (axn (shr i 0) (a 2) wh k).toInt = sumZ (cn0 W s wh) k ∧ -200000 * (k : Int) ≤ sumZ (cn0 W s wh) k ∧ sumZ (cn0 W s wh) k ≤ 200000 * (k : Int) := by
  refine axn_Z hk (fun m _ h => if_pos h) (fun m hm h => ?_) (fun m hm => ?_)
  · obtain ⟨c, hc, e⟩ := (hV m hm).resolve_left h
    show _ = (if wh m = -1 then 0 else _)
    rw [if_neg h, (hW m hm).1, e, nI_toInt (by omega)]
    exact shr_0 hA (hW m hm).2.1 (by omega)
  · show -200000 ≤ (if wh m = -1 then 0 else _) ∧ (if wh m = -1 then 0 else _) ≤ 200000
    split
    · omega
    · next h =>
      obtain ⟨c, hc, e⟩ := (hV m hm).resolve_left h
      rw [e, nI_toInt (by omega)]
      have h3 := (hW m hm).2.1
      have h4 := hA.2.2.2.1
      have := mul_bd (x := W m) (y := (s : Int) - c) (by omega) (by omega) (by omega) (by omega)
      omega
theorem ax_1 (hA : Ax i ii f s) (hk : k ≤ 8) (hn : n ≤ 12) (hW : Wt a aa W k) (hV : ∀ m, m < k → wh m = -1 ∨ ∃ c, c < n ∧ wh m = nI c) : (axn (shr i 1) (a 2) wh k).toInt = sumZ (cn1 W f wh) k ∧ -200000 * (k : Int) ≤ sumZ (cn1 W f wh) k ∧ sumZ (cn1 W f wh) k ≤ 200000 * (k : Int) := by
  refine axn_Z hk (fun m _ h => if_pos h) (fun m hm h => ?_) (fun m hm => ?_)
  · obtain ⟨c, hc, e⟩ := (hV m hm).resolve_left h
    show _ = (if wh m = -1 then 0 else _)
    rw [if_neg h, (hW m hm).1, e, nI_toInt (by omega)]
    exact shr_1 hA (hW m hm).2.1 (by omega)
  · show -200000 ≤ (if wh m = -1 then 0 else _) ∧ (if wh m = -1 then 0 else _) ≤ 200000
    split
    · omega
    · next h =>
      obtain ⟨c, hc, e⟩ := (hV m hm).resolve_left h
      rw [e, nI_toInt (by omega)]
      have h3 := (hW m hm).2.1
      have h4 := hA.2.2.2.1
      have h5 := hA.2.2.1
      have := mul_bd (x := W m) (y := (c : Int) - f) (by omega) (by omega) (by omega) (by omega)
      omega
theorem br_a (hA : Ax i ii f s) (hW : Wt a aa W k) (h : ∀ m, m < k → wh' m = wh m) : brM ii (aa 12) wh' k ↔ brP i (a 2) wh k := by
  have e0 : axn (shm ii 0) (aa 12) wh' k = axn (shr i 0) (a 2) wh k := axn_c (shm_a hA (Or.inl rfl)) (fun m hm => (hW m hm).2.2) h
  have e1 : axn (shm ii 1) (aa 12) wh' k = axn (shr i 1) (a 2) wh k := axn_c (shm_a hA (Or.inr rfl)) (fun m hm => (hW m hm).2.2) h
  unfold brM brP
  obtain ⟨-, -, -, -, e2, e3, e4, e5⟩ := hA
  rw [e0, e1, e2, e3, e4, e5]
end Sums
/-- the rest of the weights, from the pallet j on -/
def rsN (W : Nat → Nat) : Nat → Nat → Nat
  | 0, _ => 0
  | r + 1, j => W j + rsN W r (j + 1)
theorem rsN_top {W : Nat → Nat} : ∀ (r j : Nat), rsN W (r + 1) j = rsN W r j + W (j + r)
  | 0, j => by show W j + 0 = 0 + W j; omega
  | r + 1, j => by
    have := rsN_top (W := W) r (j + 1)
    show W j + rsN W (r + 1) (j + 1) = W j + rsN W r (j + 1) + W (j + (r + 1))
    rw [this, show j + 1 + r = j + (r + 1) by omega]
    omega
theorem rsN_1 : ∀ (r j : Nat), rsN (fun _ => 1) r j = r
  | 0, _ => rfl
  | r + 1, j => by show 1 + rsN (fun _ => 1) r (j + 1) = r + 1; rw [rsN_1]; omega
theorem rsN_le {W : Nat → Nat} : ∀ (r j : Nat), (∀ m, m < j + r → W m ≤ 1000) → rsN W r j ≤ 1000 * r
  | 0, _, _ => Nat.le_refl _
  | r + 1, j, h => by
    have h1 := rsN_le (W := W) r (j + 1) (fun m hm => h m (by omega))
    have h2 := h j (by omega)
    show W j + rsN W r (j + 1) ≤ 1000 * (r + 1)
    omega
theorem rst_N {wt : Nat → Int32} {W : Nat → Nat} : ∀ (r j x : Nat), (∀ m, m < j + r → wt m = nI (W m)) → rst wt r j (nI x) = nI (x + rsN W r j)
  | 0, _, x, _ => rfl
  | r + 1, j, x, h => by
    show rst wt r (j + 1) (nI x + wt j) = _
    rw [h j (by omega), nI_add, rst_N r (j + 1) (x + W j) (fun m hm => h m (by omega))]
    show nI (x + W j + rsN W r (j + 1)) = nI (x + (W j + rsN W r (j + 1)))
    rw [Nat.add_assoc]
def tlZ (V : Nat → Int) (dd : Nat) : Nat → Int := fun m => if m < dd then 0 else V m
theorem tl_0 {V : Nat → Int} {dd : Nat} : ∀ K, K ≤ dd → sumZ (tlZ V dd) K = 0
  | 0, _ => rfl
  | K + 1, h => by
    show sumZ (tlZ V dd) K + tlZ V dd K = 0
    rw [tl_0 K (by omega), show tlZ V dd K = 0 from if_pos (by omega)]
    rfl
theorem tl_N {W : Nat → Nat} {dd : Nat} : ∀ r, sumZ (tlZ (fun m => (W m : Int)) dd) (dd + r) = (rsN W r dd : Int)
  | 0 => tl_0 dd (Nat.le_refl _)
  | r + 1 => by
    show sumZ (tlZ (fun m => (W m : Int)) dd) (dd + r) + tlZ (fun m => (W m : Int)) dd (dd + r) = _
    rw [tl_N r, rsN_top, show tlZ (fun m => (W m : Int)) dd (dd + r) = (W (dd + r) : Int) from if_neg (by omega)]
    omega
theorem sum_up {F G V : Nat → Int} {dd : Nat} : ∀ K, (∀ m, m < K → (m < dd → G m = F m) ∧ (dd ≤ m → F m = 0 ∧ G m ≤ V m)) → sumZ G K ≤ sumZ F K + sumZ (tlZ V dd) K
  | 0, _ => by show (0 : Int) ≤ 0 + 0; decide
  | K + 1, h => by
    have h1 := sum_up (F := F) (G := G) (V := V) (dd := dd) K (fun m hm => h m (by omega))
    obtain ⟨h2, h3⟩ := h K (by omega)
    show sumZ G K + G K ≤ sumZ F K + F K + (sumZ (tlZ V dd) K + tlZ V dd K)
    by_cases hd : K < dd
    · rw [h2 hd, show tlZ V dd K = 0 from if_pos hd]; omega
    · obtain ⟨h4, h5⟩ := h3 (by omega)
      rw [h4, show tlZ V dd K = V K from if_neg hd]; omega
theorem sum_lo {F G : Nat → Int} {W : Nat → Nat} {u : Int} {dd : Nat} : ∀ K, (∀ m, m < K → (m < dd → G m = F m) ∧ (dd ≤ m → F m = 0 ∧ (G m = 0 ∨ (W m : Int) * u ≤ G m))) → sumZ F K + min 0 (sumZ (tlZ (fun m => (W m : Int)) dd) K * u) ≤ sumZ G K ∧ 0 ≤ sumZ (tlZ (fun m => (W m : Int)) dd) K
  | 0, _ => by
    show (0 : Int) + min 0 (0 * u) ≤ 0 ∧ (0 : Int) ≤ 0
    rw [Int.zero_mul]
    decide
  | K + 1, h => by
    obtain ⟨h1, h0⟩ := sum_lo (F := F) (G := G) (W := W) (u := u) (dd := dd) K (fun m hm => h m (by omega))
    obtain ⟨h2, h3⟩ := h K (by omega)
    show sumZ F K + F K + min 0 ((sumZ (tlZ (fun m => (W m : Int)) dd) K + tlZ (fun m => (W m : Int)) dd K) * u) ≤ sumZ G K + G K ∧ 0 ≤ sumZ (tlZ (fun m => (W m : Int)) dd) K + tlZ (fun m => (W m : Int)) dd K
    generalize sumZ (tlZ (fun m => (W m : Int)) dd) K = R at h1 h0 ⊢
    by_cases hd : K < dd
    · rw [h2 hd, show tlZ (fun m => (W m : Int)) dd K = 0 from if_pos hd, Int.add_zero]
      exact ⟨by omega, h0⟩
    · obtain ⟨h4, h5⟩ := h3 (by omega)
      rw [h4, show tlZ (fun m => (W m : Int)) dd K = (W K : Int) from if_neg hd, Int.add_mul]
      refine ⟨?_, by omega⟩
      by_cases hu : 0 ≤ u
      · have e1 := Int.mul_nonneg h0 hu
        have e2 := Int.mul_nonneg (show (0 : Int) ≤ W K by omega) hu
        omega
      · have e1 := Int.mul_nonpos_of_nonneg_of_nonpos h0 (show u ≤ 0 by omega)
        have e2 := Int.mul_nonpos_of_nonneg_of_nonpos (show (0 : Int) ≤ W K by omega) (show u ≤ 0 by omega)
        omega
theorem st_Z (wh : Nat → Int32) : ∀ k, (stN wh k : Int) = sumZ (fun m => if wh m = -1 then 0 else 1) k
  | 0 => rfl
  | k + 1 => by
    show (((if wh k = -1 then stN wh k else stN wh k + 1 : Nat)) : Int) = sumZ _ k + (if wh k = -1 then 0 else 1)
    rw [← st_Z wh k]
    split <;> omega
theorem wt_Z (W : Nat → Nat) (wh : Nat → Int32) : ∀ k, (wtN W wh k : Int) = sumZ (fun m => if wh m = -1 then 0 else (W m : Int)) k
  | 0 => rfl
  | k + 1 => by
    show (((if wh k = -1 then wtN W wh k else wtN W wh k + W k : Nat)) : Int) = sumZ _ k + (if wh k = -1 then 0 else (W k : Int))
    rw [← wt_Z W wh k]
    split <;> omega
