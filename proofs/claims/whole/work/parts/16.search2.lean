/-- the best so far: how many stand, what they weigh, where -/
abbrev SB : Type := Int32 × Int32 × (Nat → Int32)
noncomputable def cS {α : Type} (p : Prop) (x y : α) : α := @ite α p (Classical.propDecidable p) x y
theorem cS_t {α : Type} {p : Prop} {x y : α} (h : p) : cS p x y = x := if_pos h
theorem cS_f {α : Type} {p : Prop} {x y : α} (h : ¬ p) : cS p x y = y := if_neg h
def lp (f : Nat → SB → SB) : Nat → Nat → SB → SB
  | 0, _, s => s
  | r + 1, c, s => lp f r (c + 1) (f c s)
/-- the class's search from the pallet k - r on -/
noncomputable def tfS (i : Nat → Int32) (a : Nat → Nat → Int32) (n k : Nat) : Nat → (Nat → Int32) → SB → SB
  | 0, wh, sb => cS (hpP i (a 2) wh k (k - 0) sb.1 sb.2.1) sb (stn wh k, wtn (a 2) wh k, cpk wh sb.2.2 k)
  | r + 1, wh, sb => cS (hpP i (a 2) wh k (k - (r + 1)) sb.1 sb.2.1) sb (tfS i a n k r wh (lp (fun c s => cS (fb (au a 7 wh) k (k - (r + 1)) c = 0) (tfS i a n k r (upd wh (k - (r + 1)) (nI c)) s) s) n 0 sb))
/-- the world in the midst of a search -/
abbrev hs (t : ty4) (q : Nat → Nat) (i : Nat → Int32) (a : Nat → Nat → Int32) (w : Int64) (wh : Nat → Int32) (sb : SB) : va_W := hw t q (upd (upd i 8 sb.1) 9 sb.2.1) (au (au a 7 wh) 8 sb.2.2) w
def dp : Nat → Nat → Nat
  | 0, d => d + 3
  | r + 1, d => dp r d + 2
theorem dp_3 {r d : Nat} : 3 ≤ dp r d := by
  induction r with
  | zero => show 3 ≤ d + 3; omega
  | succ r ih => show 3 ≤ dp r d + 2; omega
section Search2
variable {l : Launch} {D : va_G} {t : ty4} {b L : Nat} {xs : Nat → Int32} {q : Nat → Nat} {i : Nat → Int32} {a : Nat → Nat → Int32} {w : Int64} {d mc ms : Nat}
set_option maxHeartbeats 2000000 in
theorem c_tryIn {k : Nat} (hk : i 3 = nI k) (hk8 : k ≤ 8) (hk5 : k ≤ 5) {n : Nat} (hn : i 2 = nI n) (hn12 : n ≤ 12) {r : Nat} (hr : r + 1 ≤ k) (ih : ∀ (wh : Nat → Int32) (sb : SB), (∀ m, k - r ≤ m → m < k → wh m = -1) → MC (En l D t b L xs) MX4_tryFrom (dp r d) [.ref (q 14), .ref (q 1), .int (nI (k - r))] (hs t q i a w wh sb) mc ms (rt none (hs t q i a w wh (tfS i a n k r wh sb)) mc ms)) {wh : Nat → Int32} {sb : SB} (hinv : ∀ m, k - (r + 1) ≤ m → m < k → wh m = -1) {m : Nat} (hm : m < n) : MC (En l D t b L xs) MX4_tryIn (dp r d + 1) [.ref (q 14), .ref (q 1), .int (nI (k - (r + 1))), .int (nI m)] (hs t q i a w wh sb) mc ms (rt none (hs t q i a w wh (cS (fb (au a 7 wh) k (k - (r + 1)) m = 0) (tfS i a n k r (upd wh (k - (r + 1)) (nI m)) sb) sb)) mc ms) := by
  have hj : k - (r + 1) < 8 := by omega
  have hwj : wh (k - (r + 1)) = -1 := hinv _ (Nat.le_refl _) (by omega)
  show MW _ _ _ 0 [some (.ref (q 14)), some (.ref (q 1)), some (.int (nI (k - (r + 1)))), some (.int (nI m)), none] [] _ _ _ _
  refine MW.iload_n dX4_tryIn_0 rfl ?_
  refine MW.aload_n dX4_tryIn_1 rfl ?_
  refine MW.getf fX4_tryIn_2 1 rfl rfl ?_
  refine MW.icmp_lt 9 dX4_tryIn_5 (by decide) (fun hc5 => ?_) (fun hc5 => absurd (show nI (k - (r + 1)) < i 3 by rw [hk]; exact nI_lt (by omega) (by omega)) hc5)
  refine MW.aload_n dX4_tryIn_9 rfl ?_
  refine MW.getf fX4_tryIn_10 1 rfl rfl ?_
  refine MW.iload_n dX4_tryIn_13 rfl ?_
  refine MW.row dX4_tryIn_14 hj ?_
  refine MW.astore dX4_tryIn_15 rfl rfl ?_
  refine MW.aload_n dX4_tryIn_17 rfl ?_
  refine MW.aload dX4_tryIn_18 rfl ?_
  refine MW.iload_n dX4_tryIn_20 rfl ?_
  refine MW.callV1 fX4_tryIn_21 1 rfl (MC.up (show 2 ≤ dp r d from Nat.le_trans (by decide) dp_3) (c_firstBarButAxles (d := 0) (i := (upd (upd i 8 sb.1) 9 sb.2.1)) (a := (au (au a 7 wh) 8 sb.2.2)) hk hk8 hn hn12 hj hm)) rfl rfl rfl rfl (Nat.le_of_ble_eq_true rfl) ?_
  refine MW.top (v' := .int (fb (au a 7 wh) k (k - (r + 1)) m)) rfl ?_
  refine MW.if_ne 47 dX4_tryIn_24 (by decide) (fun hc24 => ?_) (fun hc24 => ?_)
  · skip
    exact MW.vreturn dX4_tryIn_47 rfl (by first | (rw [cS_t hc24]; exact rt_r) | (rw [cS_f hc24]; exact rt_r))
  · skip
    refine MW.aload dX4_tryIn_27 rfl ?_
    refine MW.iload_n dX4_tryIn_29 rfl ?_
    refine MW.pp5 fX4_tryIn_30 hj (rfl) (rfl) ?_
    refine MW.heap (h' := hs t q i a w (upd wh (k - (r + 1)) (nI m)) sb) rfl ?_
    refine MW.aload_n dX4_tryIn_33 rfl ?_
    refine MW.aload_n dX4_tryIn_34 rfl ?_
    refine MW.iload_n dX4_tryIn_35 rfl ?_
    refine MW.iconst (v := 1) dX4_tryIn_36 (by decide) ?_
    refine MW.iadd dX4_tryIn_37 ?_
    refine MW.top (v' := .int (nI (k - r))) (by rw [nI_1, show k - (r + 1) + 1 = k - r by omega]) ?_
    refine MW.callV0 fX4_tryIn_38 14 rfl (ih (upd wh (k - (r + 1)) (nI m)) sb (fun p h1 h2 => by rw [pk_un (by omega)]; exact hinv p (by omega) h2)) rfl rfl rfl rfl (Nat.le_of_ble_eq_true rfl) ?_
    refine MW.aload dX4_tryIn_41 rfl ?_
    refine MW.iconst (v := -1) dX4_tryIn_43 (by decide) ?_
    refine MW.pp5 fX4_tryIn_44 hj (rfl) (rfl) ?_
    refine MW.heap (h' := hs t q i a w wh (tfS i a n k r (upd wh (k - (r + 1)) (nI m)) sb)) (by show hs t q i a w (upd (upd wh (k - (r + 1)) (nI m)) (k - (r + 1)) (-1)) _ = _; rw [upd_upd, ← hwj, upd_self]) ?_
    exact MW.vreturn dX4_tryIn_47 rfl (by first | (rw [cS_t hc24]; exact rt_r) | (rw [cS_f hc24]; exact rt_r))
set_option maxHeartbeats 2000000 in
theorem l_try {k : Nat} (hk : i 3 = nI k) (hk8 : k ≤ 8) (hk5 : k ≤ 5) {n : Nat} (hn : i 2 = nI n) (hn12 : n ≤ 12) {r : Nat} (hr : r + 1 ≤ k) (ih : ∀ (wh : Nat → Int32) (sb : SB), (∀ m, k - r ≤ m → m < k → wh m = -1) → MC (En l D t b L xs) MX4_tryFrom (dp r d) [.ref (q 14), .ref (q 1), .int (nI (k - r))] (hs t q i a w wh sb) mc ms (rt none (hs t q i a w wh (tfS i a n k r wh sb)) mc ms)) {wh : Nat → Int32} (hinv : ∀ m, k - (r + 1) ≤ m → m < k → wh m = -1) {Q : mi_O → va_W → Nat → Nat → Prop} : ∀ (r2 c : Nat) (sb : SB), c + r2 = n → MW (En l D t b L xs) MX4_tryFrom (dp r d + 2) 52 [some (.ref (q 14)), some (.ref (q 1)), some (.int (nI (k - (r + 1)))), some (.int (nI n))] [] (hs t q i a w wh (lp (fun c s => cS (fb (au a 7 wh) k (k - (r + 1)) c = 0) (tfS i a n k r (upd wh (k - (r + 1)) (nI c)) s) s) r2 c sb)) mc ms Q → MW (En l D t b L xs) MX4_tryFrom (dp r d + 2) 31 [some (.ref (q 14)), some (.ref (q 1)), some (.int (nI (k - (r + 1)))), some (.int (nI c))] [] (hs t q i a w wh sb) mc ms Q := by
  intro r2
  induction r2 with
  | zero =>
    intro c sb hc hQ
    obtain rfl : c = n := by omega
    refine MW.iload_n dX4_tryFrom_31 rfl ?_
    refine MW.aload_n dX4_tryFrom_32 rfl ?_
    refine MW.getf fX4_tryFrom_33 1 rfl rfl ?_
    refine MW.icmp_ge 52 dX4_tryFrom_36 (by decide) (fun hc36 => ?_) (fun hc36 => absurd (show i 2 ≤ nI c by rw [hn]; exact nI_le (by omega) (by omega)) hc36)
    exact hQ
  | succ r2 ih2 =>
    intro c sb hc hQ
    have hm : c < n := by omega
    refine MW.iload_n dX4_tryFrom_31 rfl ?_
    refine MW.aload_n dX4_tryFrom_32 rfl ?_
    refine MW.getf fX4_tryFrom_33 1 rfl rfl ?_
    refine MW.icmp_ge 52 dX4_tryFrom_36 (by decide) (fun hc36 => absurd hc36 (show ¬ i 2 ≤ nI c by rw [hn]; exact nI_ge (by omega) (by omega))) (fun hc36 => ?_)
    refine MW.aload_n dX4_tryFrom_39 rfl ?_
    refine MW.aload_n dX4_tryFrom_40 rfl ?_
    refine MW.iload_n dX4_tryFrom_41 rfl ?_
    refine MW.iload_n dX4_tryFrom_42 rfl ?_
    refine MW.callV0 fX4_tryFrom_43 14 rfl (c_tryIn hk hk8 hk5 hn hn12 hr ih hinv hm) rfl rfl rfl rfl (Nat.le_of_ble_eq_true rfl) ?_
    refine MW.iincj dX4_tryFrom_46 rfl rfl rfl ?_
    refine MW.goto 31 dX4_tryFrom_49 (by decide) ?_
    exact ih2 (c + 1) _ (by omega) hQ
set_option maxHeartbeats 2000000 in
theorem c_tryFrom {k : Nat} (hk : i 3 = nI k) (hk8 : k ≤ 8) (hk5 : k ≤ 5) {n : Nat} (hn : i 2 = nI n) (hn12 : n ≤ 12) : ∀ (r : Nat), r ≤ k → ∀ (wh : Nat → Int32) (sb : SB), (∀ m, k - r ≤ m → m < k → wh m = -1) → MC (En l D t b L xs) MX4_tryFrom (dp r d) [.ref (q 14), .ref (q 1), .int (nI (k - r))] (hs t q i a w wh sb) mc ms (rt none (hs t q i a w wh (tfS i a n k r wh sb)) mc ms) := by
  intro r
  induction r with
  | zero =>
    intro hr wh sb hinv
    show MW _ _ (d + 2 + 1) 0 [some (.ref (q 14)), some (.ref (q 1)), some (.int (nI (k - 0))), none] [] _ _ _ _
    refine MW.iload_n dX4_tryFrom_0 rfl ?_
    refine MW.iconst (v := 5) dX4_tryFrom_1 (by decide) ?_
    refine MW.icmp_gt 14 dX4_tryFrom_2 (by decide) (fun hc2 => absurd hc2 (show ¬ (5 : Int32) < nI (k - 0) from nI_nlt (a := 5) (b := k - 0) (by omega) (by omega) |> fun z => z)) (fun hc2 => ?_)
    refine MW.aload_n dX4_tryFrom_5 rfl ?_
    refine MW.aload_n dX4_tryFrom_6 rfl ?_
    refine MW.iload_n dX4_tryFrom_7 rfl ?_
    refine MW.callV1 fX4_tryFrom_8 14 rfl (c_isHopeless (d := d) (i := (upd (upd i 8 sb.1) 9 sb.2.1)) (a := (au (au a 7 wh) 8 sb.2.2)) hk hk8 (dd := k - 0) (by omega)) rfl rfl rfl rfl (Nat.le_of_ble_eq_true rfl) ?_
    refine MW.top (v' := .int (bI (hpP i (a 2) wh k (k - 0) sb.1 sb.2.1))) rfl ?_
    refine MW.if_eq 15 dX4_tryFrom_11 (by decide) (fun hc11 => ?_) (fun hc11 => ?_)
    · skip
      refine MW.iload_n dX4_tryFrom_15 rfl ?_
      refine MW.aload_n dX4_tryFrom_16 rfl ?_
      refine MW.getf fX4_tryFrom_17 1 rfl rfl ?_
      refine MW.icmp_lt 29 dX4_tryFrom_20 (by decide) (fun hc20 => absurd hc20 (show ¬ nI (k - 0) < i 3 by rw [hk]; exact nI_nlt (by omega) (by omega))) (fun hc20 => ?_)
      refine MW.aload_n dX4_tryFrom_23 rfl ?_
      refine MW.aload_n dX4_tryFrom_24 rfl ?_
      refine MW.callV0 fX4_tryFrom_25 14 rfl (c_keep (d := d) (i := (upd (upd i 8 sb.1) 9 sb.2.1)) (a := (au (au a 7 wh) 8 sb.2.2)) hk hk8 hk5) rfl rfl rfl rfl (Nat.le_of_ble_eq_true rfl) ?_
      refine MW.heap (h' := hs t q i a w wh (stn wh k, wtn (a 2) wh k, cpk wh sb.2.2 k)) rfl ?_
      exact MW.vreturn dX4_tryFrom_28 rfl ⟨rfl, by rw [show tfS i a n k 0 wh sb = _ from cS_f (zz hc11)], rfl, rfl⟩
    · skip
      exact MW.vreturn dX4_tryFrom_14 rfl ⟨rfl, by rw [show tfS i a n k 0 wh sb = sb from cS_t (nz hc11)], rfl, rfl⟩
  | succ r ih =>
    intro hr wh sb hinv
    have ih2 := ih (by omega)
    show MW _ _ (dp r d + 1 + 1) 0 [some (.ref (q 14)), some (.ref (q 1)), some (.int (nI (k - (r + 1)))), none] [] _ _ _ _
    refine MW.iload_n dX4_tryFrom_0 rfl ?_
    refine MW.iconst (v := 5) dX4_tryFrom_1 (by decide) ?_
    refine MW.icmp_gt 14 dX4_tryFrom_2 (by decide) (fun hc2 => absurd hc2 (show ¬ (5 : Int32) < nI (k - (r + 1)) from nI_nlt (a := 5) (b := k - (r + 1)) (by omega) (by omega) |> fun z => z)) (fun hc2 => ?_)
    refine MW.aload_n dX4_tryFrom_5 rfl ?_
    refine MW.aload_n dX4_tryFrom_6 rfl ?_
    refine MW.iload_n dX4_tryFrom_7 rfl ?_
    refine MW.callV1 fX4_tryFrom_8 14 rfl (MC.up (show 2 ≤ dp r d + 1 from Nat.le_trans (by decide) (Nat.le_succ_of_le dp_3)) (c_isHopeless (d := 0) (i := (upd (upd i 8 sb.1) 9 sb.2.1)) (a := (au (au a 7 wh) 8 sb.2.2)) hk hk8 (dd := k - (r + 1)) (by omega))) rfl rfl rfl rfl (Nat.le_of_ble_eq_true rfl) ?_
    refine MW.top (v' := .int (bI (hpP i (a 2) wh k (k - (r + 1)) sb.1 sb.2.1))) rfl ?_
    refine MW.if_eq 15 dX4_tryFrom_11 (by decide) (fun hc11 => ?_) (fun hc11 => ?_)
    · skip
      refine MW.iload_n dX4_tryFrom_15 rfl ?_
      refine MW.aload_n dX4_tryFrom_16 rfl ?_
      refine MW.getf fX4_tryFrom_17 1 rfl rfl ?_
      refine MW.icmp_lt 29 dX4_tryFrom_20 (by decide) (fun hc20 => ?_) (fun hc20 => absurd (show nI (k - (r + 1)) < i 3 by rw [hk]; exact nI_lt (by omega) (by omega)) hc20)
      refine MW.iconst (v := 0) dX4_tryFrom_29 (by decide) ?_
      refine MW.istore_n dX4_tryFrom_30 rfl rfl ?_
      refine l_try hk hk8 hk5 hn hn12 hr ih2 hinv n 0 sb (by omega) ?_
      refine MW.aload_n dX4_tryFrom_52 rfl ?_
      refine MW.aload_n dX4_tryFrom_53 rfl ?_
      refine MW.iload_n dX4_tryFrom_54 rfl ?_
      refine MW.iconst (v := 1) dX4_tryFrom_55 (by decide) ?_
      refine MW.iadd dX4_tryFrom_56 ?_
      refine MW.top (v' := .int (nI (k - r))) (by rw [nI_1, show k - (r + 1) + 1 = k - r by omega]) ?_
      refine MW.callV0 fX4_tryFrom_57 14 rfl (MC.up (Nat.le_succ _) (ih2 wh _ (fun m h1 h2 => hinv m (by omega) h2))) rfl rfl rfl rfl (Nat.le_of_ble_eq_true rfl) ?_
      exact MW.vreturn dX4_tryFrom_60 rfl ⟨rfl, by rw [show tfS i a n k (r + 1) wh sb = _ from cS_f (zz hc11)], rfl, rfl⟩
    · skip
      exact MW.vreturn dX4_tryFrom_14 rfl ⟨rfl, by rw [show tfS i a n k (r + 1) wh sb = sb from cS_t (nz hc11)], rfl, rfl⟩
set_option maxHeartbeats 2000000 in
theorem l_run {k : Nat} (hk : i 3 = nI k) (hk8 : k ≤ 8) (hk5 : k ≤ 5) {n : Nat} (hn : i 2 = nI n) (hn12 : n ≤ 12) {wh : Nat → Int32} {sb : SB} : ∀ (r j : Nat), j + r = k → MW (En l D t b L xs) MX4_run d 22 [some (.ref (q 14)), some (.ref (q 1)), some (.int (nI j))] [] (hs t q i a w (cpk sb.2.2 wh j) sb) mc ms (rt none (hs t q i a w (cpk sb.2.2 wh k) sb) mc ms) := by
  intro r
  induction r with
  | zero =>
    intro j hr
    obtain rfl : j = k := by omega
    refine MW.iload_n dX4_run_22 rfl ?_
    refine MW.aload_n dX4_run_23 rfl ?_
    refine MW.getf fX4_run_24 1 rfl rfl ?_
    refine MW.icmp_ge 56 dX4_run_27 (by decide) (fun hc27 => ?_) (fun hc27 => absurd (show i 3 ≤ nI j by rw [hk]; exact nI_le (by omega) (by omega)) hc27)
    exact MW.vreturn dX4_run_56 rfl rt_r
  | succ r ih =>
    intro j hr
    have hj : j < 8 := by omega
    have hj5 : j < 5 := by omega
    refine MW.iload_n dX4_run_22 rfl ?_
    refine MW.aload_n dX4_run_23 rfl ?_
    refine MW.getf fX4_run_24 1 rfl rfl ?_
    refine MW.icmp_ge 56 dX4_run_27 (by decide) (fun hc27 => absurd hc27 (show ¬ i 3 ≤ nI j by rw [hk]; exact nI_ge (by omega) (by omega))) (fun hc27 => ?_)
    refine MW.iload_n dX4_run_30 rfl ?_
    refine MW.iconst (v := 5) dX4_run_31 (by decide) ?_
    refine MW.icmp_ge 56 dX4_run_32 (by decide) (fun hc32 => absurd hc32 (show ¬ (5 : Int32) ≤ nI j from nI_ge (b := 5) hj5 (by omega))) (fun hc32 => ?_)
    refine MW.aload_n dX4_run_35 rfl ?_
    refine MW.getf fX4_run_36 1 rfl rfl ?_
    refine MW.iload_n dX4_run_39 rfl ?_
    refine MW.row dX4_run_40 hj ?_
    refine MW.aload_n dX4_run_41 rfl ?_
    refine MW.getf fX4_run_42 14 rfl rfl ?_
    refine MW.iload_n dX4_run_45 rfl ?_
    refine MW.iaj dX4_run_46 15 0 rfl rfl hj5 (by decide) ?_
    refine MW.pp5 fX4_run_47 hj (rfl) (rfl) ?_
    refine MW.heap (h' := hs t q i a w (cpk sb.2.2 wh (j + 1)) sb) (by show hs t q i a w (upd (cpk sb.2.2 wh j) j (sb.2.2 j)) sb = _; rw [cpk_s]) ?_
    refine MW.iincj dX4_run_50 rfl rfl rfl ?_
    refine MW.goto 22 dX4_run_53 (by decide) ?_
    exact ih (j + 1) (by omega)
set_option maxHeartbeats 2000000 in
theorem c_run {k : Nat} (hk : i 3 = nI k) (hk8 : k ≤ 8) (hk5 : k ≤ 5) {n : Nat} (hn : i 2 = nI n) (hn12 : n ≤ 12) : MC (En l D t b L xs) MX4_run (dp k d + 1) [.ref (q 14), .ref (q 1)] (hw t q i a w) mc ms (rt none (hs t q i a w (cpk (tfS i a n k k (tko (a 7) k) (-1, -1, a 8)).2.2 (tko (a 7) k) k) (tfS i a n k k (tko (a 7) k) (-1, -1, a 8))) mc ms) := by
  show MW _ _ _ 0 [some (.ref (q 14)), some (.ref (q 1)), none] [] _ _ _ _
  refine MW.aload_n dX4_run_0 rfl ?_
  refine MW.callV0 fX4_run_1 1 rfl (c_takeAllOut hk hk8) rfl rfl rfl rfl (Nat.le_of_ble_eq_true rfl) ?_
  refine MW.aload_n dX4_run_4 rfl ?_
  refine MW.iconst (v := -1) dX4_run_5 (by decide) ?_
  refine MW.putf fX4_run_6 14 rfl (rfl) (rfl) rfl ?_
  refine MW.heap hw_s4_1 ?_
  refine MW.aload_n dX4_run_9 rfl ?_
  refine MW.iconst (v := -1) dX4_run_10 (by decide) ?_
  refine MW.putf fX4_run_11 14 rfl (rfl) (rfl) rfl ?_
  refine MW.heap hw_s4_2 ?_
  refine MW.heap (h' := hs t q i a w (tko (a 7) k) (-1, -1, a 8)) rfl ?_
  have c_tryFrom0 := c_tryFrom (l := l) (D := D) (t := t) (b := b) (L := L) (xs := xs) (q := q) (a := a) (w := w) (d := d) (mc := mc) (ms := ms) hk hk8 hk5 hn hn12 k (Nat.le_refl _) (tko (a 7) k) (-1, -1, a 8) (fun m _ h2 => if_pos h2)
  rw [Nat.sub_self] at c_tryFrom0
  refine MW.aload_n dX4_run_14 rfl ?_
  refine MW.aload_n dX4_run_15 rfl ?_
  refine MW.iconst (v := 0) dX4_run_16 (by decide) ?_
  refine MW.callV0 fX4_run_17 14 rfl (c_tryFrom0) rfl rfl rfl rfl (Nat.le_of_ble_eq_true rfl) ?_
  refine MW.iconst (v := 0) dX4_run_20 (by decide) ?_
  refine MW.istore_n dX4_run_21 rfl rfl ?_
  refine MW.heap (h' := hs t q i a w (cpk (tfS i a n k k (tko (a 7) k) (-1, -1, a 8)).2.2 (tko (a 7) k) 0) (tfS i a n k k (tko (a 7) k) (-1, -1, a 8))) (by rw [cpk_0]) ?_
  exact l_run hk hk8 hk5 hn hn12 k 0 (by omega)
end Search2
