theorem mul_bd2 {x y : Int} (h0 : 0 ≤ x) (h1 : x ≤ 8000) (h2 : -101 ≤ y) (h3 : y ≤ 101) : -808000 ≤ x * y ∧ x * y ≤ 808000 := by
  have e1 := Int.mul_le_mul_of_nonneg_left h3 h0
  have e2 := Int.mul_le_mul_of_nonneg_left h2 h0
  omega
theorem mn_0 {x : Int32} : (mn 0 x).toInt = min 0 x.toInt := by
  unfold mn
  by_cases h : x < 0
  · rw [if_pos h]
    have := Int32.lt_iff_toInt_lt.mp h
    rw [t0] at this
    omega
  · rw [if_neg h]
    have := Int32.le_iff_toInt_le.mp (Int32.not_lt.mp h)
    rw [t0] at this ⊢
    omega
section Hope
variable {i ii : Nat → Int32} {a aa : Nat → Nat → Int32} {f s n k : Nat} {W : Nat → Nat}
/-- where the class gives a branch up, no placing of it is right and better -/
theorem hp_no (hA : Ax i ii f s) (hk : k ≤ 8) (hn : n ≤ 12) (hn2 : i 2 = nI n) (hW : Wt a aa W k) {wh wh2 : Nat → Int32} {dd : Nat} (hdd : dd ≤ k) (hV : ∀ m, m < k → wh m = -1 ∨ ∃ c, c < n ∧ wh m = nI c) (htl : ∀ m, dd ≤ m → m < k → wh m = -1) (h1 : ∀ m, m < dd → wh2 m = wh m) (h2 : ∀ m, dd ≤ m → m < k → wh2 m = -1 ∨ ∃ c, c < n ∧ wh2 m = nI c) {bS bW : Int32} (hh : hpP i (a 2) wh k dd bS bW) :
    ¬ ((bS < stn wh2 k ∨ stn wh2 k = bS ∧ bW < wtn (a 2) wh2 k) ∧ brP i (a 2) wh2 k) := by
  rintro ⟨hb, hbr⟩
  have hV2 : ∀ m, m < k → wh2 m = -1 ∨ ∃ c, c < n ∧ wh2 m = nI c := fun m hm => by
    by_cases h : m < dd
    · rw [h1 m h]; exact hV m hm
    · exact h2 m (by omega) hm
  have hR : rst (a 2) (k - dd) dd 0 = nI (rsN W (k - dd) dd) := by
    have := rst_N (wt := a 2) (W := W) (k - dd) dd 0 (fun m hm => (hW m (by omega)).1)
    rw [Nat.zero_add] at this
    exact this
  have hRb : rsN W (k - dd) dd ≤ 8000 := by
    have := rsN_le (W := W) (k - dd) dd (fun m hm => (hW m (by omega)).2.1)
    omega
  have hdk : dd + (k - dd) = k := by omega
  have eT : sumZ (tlZ (fun m => (W m : Int)) dd) k = (rsN W (k - dd) dd : Int) := by
    have := tl_N (W := W) (dd := dd) (k - dd)
    rw [hdk] at this
    exact this
  -- how many, how heavy
  have s1 : (stN wh2 k : Int) ≤ (stN wh k : Int) + (k - dd : Int) := by
    have h9 := sum_up (F := fun m => if wh m = -1 then 0 else 1) (G := fun m => if wh2 m = -1 then 0 else 1) (V := fun _ => 1) (dd := dd) k (fun m hm => ⟨fun h => by show (if wh2 m = -1 then (0 : Int) else 1) = _; rw [h1 m h], fun h => ⟨if_pos (htl m h hm), by show (if wh2 m = -1 then (0 : Int) else 1) ≤ 1; split <;> omega⟩⟩)
    have h8 := tl_N (W := fun _ => 1) (dd := dd) (k - dd)
    rw [hdk, rsN_1] at h8
    have h7 : sumZ (tlZ (fun _ => 1) dd) k = ((k - dd : Nat) : Int) := h8
    rw [← st_Z, ← st_Z, h7] at h9
    omega
  have w1 : (wtN W wh2 k : Int) ≤ (wtN W wh k : Int) + (rsN W (k - dd) dd : Int) := by
    have h9 := sum_up (F := fun m => if wh m = -1 then 0 else (W m : Int)) (G := fun m => if wh2 m = -1 then 0 else (W m : Int)) (V := fun m => (W m : Int)) (dd := dd) k (fun m hm => ⟨fun h => by show (if wh2 m = -1 then (0 : Int) else (W m : Int)) = _; rw [h1 m h], fun h => ⟨if_pos (htl m h hm), by show (if wh2 m = -1 then (0 : Int) else (W m : Int)) ≤ (W m : Int); split <;> omega⟩⟩)
    rw [← wt_Z, ← wt_Z, eT] at h9
    exact h9
  have b1 := stN_le wh k
  have b2 := stN_le wh2 k
  have b3 := wtN_le (W := W) wh (B := 1000) (k := k) (fun m hm => (hW m hm).2.1)
  have b4 := wtN_le (W := W) wh2 (B := 1000) (k := k) (fun m hm => (hW m hm).2.1)
  have e1 := stn_N wh k
  have e2 := stn_N wh2 k
  have e3 := wtn_N (W := W) wh (k := k) (fun m hm => (hW m hm).1)
  have e4 := wtn_N (W := W) wh2 (k := k) (fun m hm => (hW m hm).1)
  have eS : stn wh k + nI k - nI dd = nI (stN wh k + k - dd) := by rw [e1, nI_add, pk_sub (by omega)]
  have tS : (nI (stN wh k + k - dd)).toInt = (stN wh k : Int) + k - dd := by rw [nI_toInt (by omega)]; omega
  have tS2 : (stn wh2 k).toInt = (stN wh2 k : Int) := by rw [e2, nI_toInt (by omega)]
  have tW2 : (wtn (a 2) wh2 k).toInt = (wtN W wh2 k : Int) := by rw [e4, nI_toInt (by omega)]
  rcases hh with (hh | ⟨hh, hh2⟩) | hh
  · rw [eS, Int32.lt_iff_toInt_lt, tS] at hh
    rcases hb with hb | ⟨hb, -⟩
    · rw [Int32.lt_iff_toInt_lt, tS2] at hb
      omega
    · have := congrArg Int32.toInt hb
      rw [tS2] at this
      omega
  · have q1 := congrArg Int32.toInt hh
    rw [eS, tS] at q1
    rcases hb with hb | ⟨hb, hb2⟩
    · rw [Int32.lt_iff_toInt_lt, tS2] at hb
      omega
    · rw [hR, e3, nI_add, Int32.le_iff_toInt_le, nI_toInt (by omega)] at hh2
      rw [Int32.lt_iff_toInt_lt, tW2] at hb2
      omega
  · apply hh
    obtain ⟨f1, f2⟩ := hbr
    obtain ⟨x1, x2, x3⟩ := ax_0 hA hk hn hW hV
    obtain ⟨y1, y2, y3⟩ := ax_0 hA hk hn hW hV2
    obtain ⟨u1, u2, u3⟩ := ax_1 hA hk hn hW hV
    obtain ⟨v1, v2, v3⟩ := ax_1 hA hk hn hW hV2
    obtain ⟨g4, g5, g1, g2, -⟩ := id hA
    have k8 : (k : Int) ≤ 8 := by omega
    constructor
    · have z1 : (nI n - 1 : Int32).toInt = (n : Int) - 1 := pk_sub_toInt (a := n) (b := 1) (by omega) (by omega)
      have z2 : (i 5 - (i 2 - 1)).toInt = (s : Int) - ((n : Int) - 1) := by
        rw [g5, hn2, i32_sub (by rw [z1, nI_toInt (by omega)]; omega) (by rw [z1, nI_toInt (by omega)]; omega), z1, nI_toInt (by omega)]
      have z3 := mul_bd2 (x := (rsN W (k - dd) dd : Int)) (y := (s : Int) - ((n : Int) - 1)) (by omega) (by omega) (by omega) (by omega)
      have z4 : (shr i 0 (rst (a 2) (k - dd) dd 0) (i 2 - 1)).toInt = (rsN W (k - dd) dd : Int) * ((s : Int) - ((n : Int) - 1)) := by
        rw [hR]
        show (if (0 : Int32) = 0 then nI (rsN W (k - dd) dd) * (i 5 - (i 2 - 1)) else _).toInt = _
        rw [if_pos rfl, i32_mul (by rw [z2, nI_toInt (by omega)]; omega) (by rw [z2, nI_toInt (by omega)]; omega), z2, nI_toInt (by omega)]
      have z5 := (sum_lo (F := cn0 W s wh) (G := cn0 W s wh2) (W := W) (u := (s : Int) - ((n : Int) - 1)) (dd := dd) k (fun m hm => ⟨fun h => by unfold cn0; rw [h1 m h], fun h => ⟨if_pos (htl m h hm), by
        rcases h2 m h hm with h9 | ⟨c, hc, h9⟩
        · exact Or.inl (if_pos h9)
        · right
          show _ ≤ (if wh2 m = -1 then 0 else _)
          rw [if_neg (by rw [h9]; exact nI_m1 (by omega)), h9, nI_toInt (by omega)]
          exact Int.mul_le_mul_of_nonneg_left (by omega) (by omega)⟩⟩)).1
      rw [eT] at z5
      rw [Int32.le_iff_toInt_le] at f1 ⊢
      rw [i32_add (by rw [x1, mn_0, z4]; omega) (by rw [x1, mn_0, z4]; omega), x1, mn_0, z4]
      omega
    · have z2 : ((0 : Int32) - i 4).toInt = 0 - (f : Int) := by
        rw [g4, i32_sub (by rw [t0, nI_toInt (by omega)]; omega) (by rw [t0, nI_toInt (by omega)]; omega), t0, nI_toInt (by omega)]
      have z3 := mul_bd2 (x := (rsN W (k - dd) dd : Int)) (y := 0 - (f : Int)) (by omega) (by omega) (by omega) (by omega)
      have z4 : (shr i 1 (rst (a 2) (k - dd) dd 0) 0).toInt = (rsN W (k - dd) dd : Int) * (0 - (f : Int)) := by
        rw [hR]
        show (if (1 : Int32) = 0 then _ else nI (rsN W (k - dd) dd) * (0 - i 4)).toInt = _
        rw [if_neg (by decide), i32_mul (by rw [z2, nI_toInt (by omega)]; omega) (by rw [z2, nI_toInt (by omega)]; omega), z2, nI_toInt (by omega)]
      have z5 := (sum_lo (F := cn1 W f wh) (G := cn1 W f wh2) (W := W) (u := 0 - (f : Int)) (dd := dd) k (fun m hm => ⟨fun h => by unfold cn1; rw [h1 m h], fun h => ⟨if_pos (htl m h hm), by
        rcases h2 m h hm with h9 | ⟨c, hc, h9⟩
        · exact Or.inl (if_pos h9)
        · right
          show _ ≤ (if wh2 m = -1 then 0 else _)
          rw [if_neg (by rw [h9]; exact nI_m1 (by omega)), h9, nI_toInt (by omega)]
          exact Int.mul_le_mul_of_nonneg_left (by omega) (by omega)⟩⟩)).1
      rw [eT] at z5
      rw [Int32.le_iff_toInt_le] at f2 ⊢
      rw [i32_add (by rw [u1, mn_0, z4]; omega) (by rw [u1, mn_0, z4]; omega), u1, mn_0, z4]
      omega
/-- what the reference asks of a placing -/
def cnd (ii : Nat → Int32) (aa : Nat → Nat → Int32) (k : Nat) (wh : Nat → Int32) (sb : SB) : Prop := (sb.1 < stn wh k ∨ stn wh k = sb.1 ∧ sb.2.1 < wtn (aa 12) wh k) ∧ brM ii (aa 12) wh k
/-- wh2 goes on from wh, with the last r pallets anywhere -/
def Ext (n k r : Nat) (wh wh2 : Nat → Int32) : Prop := (∀ m, m < k - r → wh2 m = wh m) ∧ ∀ m, k - r ≤ m → m < k → wh2 m = -1 ∨ ∃ c, c < n ∧ wh2 m = nI c
theorem lp_stay {g : Nat → SB → SB} {sb : SB} : ∀ (r c : Nat), (∀ x, c ≤ x → x < c + r → g x sb = sb) → lp g r c sb = sb
  | 0, _, _ => rfl
  | r + 1, c, h => by
    show lp g r (c + 1) (g c sb) = sb
    rw [h c (Nat.le_refl _) (by omega)]
    exact lp_stay r (c + 1) (fun x h1 h2 => h x (by omega) (by omega))
theorem mx_stay : ∀ (r : Nat), r ≤ k → ∀ (wh : Nat → Int32) (sb : SB), (∀ m, k - r ≤ m → m < k → wh m = -1) → (∀ wh2, Ext n k r wh wh2 → ¬ cnd ii aa k wh2 sb) → mxS ii aa n k r wh sb = sb
  | 0, _, wh, sb, _, h => cS_f (h wh ⟨fun _ _ => rfl, fun m h1 h2 => absurd h1 (by omega)⟩)
  | r + 1, hr, wh, sb, ht, h => by
    show mxS ii aa n k r wh (lp (fun c s => cS (ftP (au aa 17 (upd wh (k - (r + 1)) (nI c))) k (k - (r + 1)) c) (mxS ii aa n k r (upd wh (k - (r + 1)) (nI c)) s) s) n 0 sb) = sb
    have hp : wh (k - (r + 1)) = -1 := ht _ (Nat.le_refl _) (by omega)
    rw [lp_stay n 0 (fun c _ hc => ?_)]
    · refine mx_stay r (by omega) wh sb (fun m h1 h2 => ht m (by omega) h2) (fun wh2 hE => h wh2 ⟨fun m hm => hE.1 m (by omega), fun m h1 h2 => ?_⟩)
      by_cases h3 : m = k - (r + 1)
      · left; rw [hE.1 m (by omega), h3]; exact hp
      · exact hE.2 m (by omega) h2
    · by_cases hf : ftP (au aa 17 (upd wh (k - (r + 1)) (nI c))) k (k - (r + 1)) c
      · show cS _ _ _ = _
        rw [cS_t hf]
        refine mx_stay r (by omega) _ sb (fun m h1 h2 => by rw [pk_un (by omega)]; exact ht m (by omega) h2) (fun wh2 hE => h wh2 ⟨fun m hm => by rw [hE.1 m (by omega), pk_un (by omega)], fun m h1 h2 => ?_⟩)
        by_cases h3 : m = k - (r + 1)
        · right
          exact ⟨c, by omega, by rw [hE.1 m (by omega), h3, pk_us]⟩
        · exact hE.2 m (by omega) h2
      · show cS _ _ _ = _
        rw [cS_f hf]
/-- the two searches stand alike -/
def SR (n k : Nat) (sb sb' : SB) : Prop := sb.1 = sb'.1 ∧ (sb.1 = -1 ∨ (sb.2.1 = sb'.2.1 ∧ (∀ m, m < k → sb'.2.2 m = sb.2.2 m) ∧ Vl sb.2.2 n k))
theorem lp_R {g g' : Nat → SB → SB} : ∀ (r c : Nat) (sb sb' : SB), c + r = n → SR n k sb sb' → (∀ x s s', x < n → SR n k s s' → SR n k (g x s) (g' x s')) → SR n k (lp g r c sb) (lp g' r c sb')
  | 0, _, _, _, _, h, _ => h
  | r + 1, c, sb, sb', hc, h, hg => lp_R r (c + 1) (g c sb) (g' c sb') (by omega) (hg c sb sb' (by omega) h) hg
theorem Vl_upd {wh : Nat → Int32} {p c : Nat} (hV : Vl wh n k) (hc : c < n) (hn : n ≤ 12) (h : ∀ m, m < k → ¬ wh m = nI c) : Vl (upd wh p (nI c)) n k := by
  refine ⟨fun m hm => ?_, fun m m' hm hm' he h0 => ?_⟩
  · by_cases h1 : m = p
    · right; exact ⟨c, hc, by rw [h1, pk_us]⟩
    · rw [pk_un h1]; exact hV.1 m hm
  · by_cases h1 : m = p
    · by_cases h2 : m' = p
      · rw [h1, h2]
      · rw [h1, pk_us, pk_un h2] at he
        exact absurd he.symm (h m' hm')
    · by_cases h2 : m' = p
      · rw [h2, pk_us, pk_un h1] at he
        exact absurd he (h m hm)
      · rw [pk_un h1, pk_un h2] at he
        rw [pk_un h1] at h0
        exact hV.2 m m' hm hm' he h0
theorem sx (hA : Ax i ii f s) (hk : k ≤ 8) (hn : n ≤ 12) (hn2 : i 2 = nI n) (hW : Wt a aa W k) (hS : Sm a aa k) : ∀ (r : Nat), r ≤ k → ∀ (wh wh' : Nat → Int32) (sb sb' : SB), Vl wh n k → (∀ m, k - r ≤ m → m < k → wh m = -1) → (∀ m, m < k → wh' m = wh m) → SR n k sb sb' → SR n k (tfS i a n k r wh sb) (mxS ii aa n k r wh' sb') := by
  -- given up: the reference finds nothing either
  have hop : ∀ (r : Nat), r ≤ k → ∀ (wh wh' : Nat → Int32) (sb sb' : SB), Vl wh n k → (∀ m, k - r ≤ m → m < k → wh m = -1) → (∀ m, m < k → wh' m = wh m) → SR n k sb sb' → hpP i (a 2) wh k (k - r) sb.1 sb.2.1 → mxS ii aa n k r wh' sb' = sb' := by
    intro r hr wh wh' sb sb' hV ht he hR hh
    refine mx_stay r hr wh' sb' (fun m h1 h2 => by rw [he m h2]; exact ht m h1 h2) (fun wh2 hE hc => ?_)
    refine hp_no hA hk hn hn2 hW (dd := k - r) (by omega) hV.1 ht (fun m hm => by rw [hE.1 m hm]; exact he m (by omega)) hE.2 hh ⟨?_, (br_a hA hW (fun _ _ => rfl)).mp hc.2⟩
    have ew : wtn (aa 12) wh2 k = wtn (a 2) wh2 k := wtn_c (fun m hm => (hW m hm).2.2) (fun _ _ => rfl)
    have hc1 := hc.1
    rw [ew, ← hR.1] at hc1
    rcases hc1 with h1 | ⟨h1, h2⟩
    · exact Or.inl h1
    · rcases hR.2 with h3 | ⟨h3, -⟩
      · exfalso
        rw [h3, stn_N] at h1
        have := stN_le wh2 k
        exact nI_m1 (by omega) h1
      · exact Or.inr ⟨h1, by rw [h3]; exact h2⟩
  intro r
  induction r with
  | zero =>
    intro hr wh wh' sb sb' hV ht he hR
    by_cases hh : hpP i (a 2) wh k (k - 0) sb.1 sb.2.1
    · rw [hop 0 hr wh wh' sb sb' hV ht he hR hh, show tfS i a n k 0 wh sb = sb from cS_t hh]
      exact hR
    · rw [show tfS i a n k 0 wh sb = _ from cS_f hh]
      have e0 : rst (a 2) (k - (k - 0)) (k - 0) 0 = 0 := by rw [show k - (k - 0) = 0 by omega]; rfl
      have es : stn wh k + nI k - nI (k - 0) = stn wh k := by rw [Nat.sub_zero, Int32.add_sub_cancel]
      have ew : wtn (aa 12) wh' k = wtn (a 2) wh k := wtn_c (fun m hm => (hW m hm).2.2) he
      have est : stn wh' k = stn wh k := stn_c he
      have hx0 : shr i 0 0 (i 2 - 1) = 0 := by
        show (if (0 : Int32) = 0 then 0 * (i 5 - (i 2 - 1)) else _) = 0
        rw [if_pos rfl, Int32.zero_mul]
      have hx1 : shr i 1 0 0 = 0 := by
        show (if (1 : Int32) = 0 then _ else 0 * (0 - i 4)) = 0
        rw [if_neg (by decide), Int32.zero_mul]
      have em : mn 0 0 = 0 := rfl
      unfold hpP at hh
      rw [e0, es, Int32.add_zero, hx0, hx1, em, Int32.add_zero, Int32.add_zero] at hh
      have hbr : brP i (a 2) wh k := Classical.byContradiction (fun z => hh (Or.inr z))
      have hge : ¬ stn wh k < sb.1 := fun z => hh (Or.inl (Or.inl z))
      have hwt : ¬ (stn wh k = sb.1 ∧ wtn (a 2) wh k ≤ sb.2.1) := fun z => hh (Or.inl (Or.inr z))
      have hb : sb.1 < stn wh k ∨ stn wh k = sb.1 ∧ sb'.2.1 < wtn (a 2) wh k := by
        by_cases hq : stn wh k = sb.1
        · right
          refine ⟨hq, ?_⟩
          rcases hR.2 with h3 | ⟨h3, -⟩
          · rw [h3, stn_N] at hq
            have := stN_le wh k
            exact absurd hq (nI_m1 (by omega))
          · rw [← h3]
            exact Int32.not_le.mp (fun z => hwt ⟨hq, z⟩)
        · left
          have h1 := Int32.le_iff_toInt_le.mp (Int32.not_lt.mp hge)
          have h2 : ¬ (stn wh k).toInt = sb.1.toInt := fun z => hq (i32_eq z)
          rw [Int32.lt_iff_toInt_lt]
          omega
      have hc : cnd ii aa k wh' sb' := by
        refine ⟨?_, (br_a hA hW he).mpr hbr⟩
        rw [est, ew, ← hR.1]
        exact hb
      rw [show mxS ii aa n k 0 wh' sb' = _ from cS_t hc, est, ew]
      refine ⟨rfl, Or.inr ⟨rfl, fun m hm => ?_, ?_⟩⟩
      · show cpk wh' sb'.2.2 k m = cpk wh sb.2.2 k m
        unfold cpk
        rw [if_pos hm, if_pos hm]
        exact he m hm
      · have ec : ∀ m, m < k → cpk wh sb.2.2 k m = wh m := fun m hm => if_pos hm
        show Vl (cpk wh sb.2.2 k) n k
        refine ⟨fun m hm => by rw [ec m hm]; exact hV.1 m hm, fun m p hm hp h1 h2 => ?_⟩
        rw [ec m hm, ec p hp] at h1
        rw [ec m hm] at h2
        exact hV.2 m p hm hp h1 h2
  | succ r ih =>
    intro hr wh wh' sb sb' hV ht he hR
    by_cases hh : hpP i (a 2) wh k (k - (r + 1)) sb.1 sb.2.1
    · rw [hop (r + 1) hr wh wh' sb sb' hV ht he hR hh, show tfS i a n k (r + 1) wh sb = sb from cS_t hh]
      exact hR
    · rw [show tfS i a n k (r + 1) wh sb = _ from cS_f hh]
      show SR n k _ (mxS ii aa n k r wh' (lp (fun c s => cS (ftP (au aa 17 (upd wh' (k - (r + 1)) (nI c))) k (k - (r + 1)) c) (mxS ii aa n k r (upd wh' (k - (r + 1)) (nI c)) s) s) n 0 sb'))
      have hp : wh (k - (r + 1)) = -1 := ht _ (Nat.le_refl _) (by omega)
      refine ih (by omega) wh wh' _ _ hV (fun m h1 h2 => ht m (by omega) h2) he ?_
      refine lp_R n 0 sb sb' (by omega) hR (fun c s1 s2 hc hs => ?_)
      have hft := fb_ft (a := a) (aa := aa) (k := k) (j := k - (r + 1)) (m := c) (wh := wh) (wh' := upd wh' (k - (r + 1)) (nI c)) hS (by omega) (by omega) (fun p h1 h2 => by rw [pk_un h2]; exact he p h1) hp
      by_cases hf : fb (au a 7 wh) k (k - (r + 1)) c = 0
      · rw [cS_t hf, cS_t (hft.mp hf)]
        have hno : ∀ m, m < k → ¬ wh m = nI c := by
          intro m hm hz
          have h9 := (fb_0.mp hf).1
          exact h9 ⟨by show ¬ wh (k - (r + 1)) = nI c; rw [hp]; exact fun z => nI_m1 (by omega) z.symm, m, hm, hz⟩
        refine ih (by omega) _ _ s1 s2 (Vl_upd hV hc hn hno) (fun m h1 h2 => by rw [pk_un (by omega)]; exact ht m (by omega) h2) (fun m hm => ?_) hs
        by_cases h1 : m = k - (r + 1)
        · rw [h1, pk_us, pk_us]
        · rw [pk_un h1, pk_un h1]; exact he m hm
      · rw [cS_f hf, cS_f (fun z => hf (hft.mpr z))]
        exact hs
/-- the reference's search always finds a placing -/
theorem mx_some (hk : k ≤ 8) {wh : Nat → Int32} (hw : ∀ m, m < k → wh m = -1) (hb : brM ii (aa 12) wh k) : ∀ (r : Nat) (sb : SB), ¬ (mxS ii aa n k r wh sb).1 = -1
  | 0, sb => by
    by_cases hc : cnd ii aa k wh sb
    · rw [show mxS ii aa n k 0 wh sb = _ from cS_t hc]
      show ¬ stn wh k = -1
      rw [stn_N]
      have := stN_le wh k
      exact nI_m1 (by omega)
    · rw [show mxS ii aa n k 0 wh sb = sb from cS_f hc]
      intro h
      apply hc
      refine ⟨Or.inl ?_, hb⟩
      rw [h, stn_N, Int32.lt_iff_toInt_lt, tm1]
      have := stN_le wh k
      rw [nI_toInt (by omega)]
      omega
  | r + 1, sb => mx_some hk hw hb r _
end Hope
