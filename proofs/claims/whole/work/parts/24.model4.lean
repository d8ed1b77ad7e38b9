/-- what the reference's exact search leaves -/
noncomputable def mxB (i : Nat → Int32) (a : Nat → Nat → Int32) (n k : Nat) : Nat → Int32 := (mxS i a n k k (tko (a 17) k) (-1, 0, tko (a 18) k)).2.2
section Model4
variable {l : Launch} {D : va_G} {t : ty4} {b L : Nat} {xs : Nat → Int32} {q : Nat → Nat} {i : Nat → Int32} {a : Nat → Nat → Int32} {w : Int64} {d mc ms : Nat}
set_option maxHeartbeats 2000000 in
theorem lx_9 {k : Nat} (hk : i 17 = nI k) (hk8 : k ≤ 8) {x1 x2 x3 : Int32} {z5 z6 : Option Value} {Q : mi_O → va_W → Nat → Nat → Prop} : ∀ (r j : Nat), j + r = k → (MW (En l D t b L xs) MX6_solveExactly (d + 3) 40 [some (.ref (q 18)), some (.int x1), some (.int x2), some (.int x3), some (.int (nI k)), z5, z6] [] (hx t q i a w (tko (a 17) k) (tko (a 18) k)) mc ms Q) → MW (En l D t b L xs) MX6_solveExactly (d + 3) 9 [some (.ref (q 18)), some (.int x1), some (.int x2), some (.int x3), some (.int (nI j)), z5, z6] [] (hx t q i a w (tko (a 17) j) (tko (a 18) j)) mc ms Q := by
  intro r
  induction r with
  | zero =>
    intro j hr hQ
    obtain rfl : j = k := by omega
    refine MW.iload dX6_solveExactly_9 rfl ?_
    refine MW.aload_n dX6_solveExactly_11 rfl ?_
    refine MW.getf fX6_solveExactly_12 18 rfl rfl ?_
    refine MW.icmp_ge 40 dX6_solveExactly_15 (by decide) (fun hc15 => ?_) (fun hc15 => absurd (show i 17 ≤ nI j by rw [hk]; exact nI_le (by omega) (by omega)) hc15)
    exact hQ
  | succ r ih =>
    intro j hr hQ
    have hj : j < 8 := by omega
    refine MW.iload dX6_solveExactly_9 rfl ?_
    refine MW.aload_n dX6_solveExactly_11 rfl ?_
    refine MW.getf fX6_solveExactly_12 18 rfl rfl ?_
    refine MW.icmp_ge 40 dX6_solveExactly_15 (by decide) (fun hc15 => absurd hc15 (show ¬ i 17 ≤ nI j by rw [hk]; exact nI_ge (by omega) (by omega))) (fun hc15 => ?_)
    refine MW.aload_n dX6_solveExactly_18 rfl ?_
    refine MW.getf fX6_solveExactly_19 18 rfl rfl ?_
    refine MW.iload dX6_solveExactly_22 rfl ?_
    refine MW.iconst (v := -1) dX6_solveExactly_24 (by decide) ?_
    refine MW.isj dX6_solveExactly_25 26 0 rfl rfl hj (by decide) ?_
    refine MW.heap hw_a26 ?_
    refine MW.heap (h' := hx t q i a w (tko (a 17) (j + 1)) (tko (a 18) j)) (by show hx t q i a w (upd (tko (a 17) j) j (-1)) (tko (a 18) j) = _; rw [tko_s]) ?_
    refine MW.aload_n dX6_solveExactly_26 rfl ?_
    refine MW.getf fX6_solveExactly_27 18 rfl rfl ?_
    refine MW.iload dX6_solveExactly_30 rfl ?_
    refine MW.iconst (v := -1) dX6_solveExactly_32 (by decide) ?_
    refine MW.isj dX6_solveExactly_33 27 0 rfl rfl hj (by decide) ?_
    refine MW.heap hw_a27 ?_
    refine MW.heap (h' := hx t q i a w (tko (a 17) (j + 1)) (tko (a 18) (j + 1))) (by show hx t q i a w (tko (a 17) (j + 1)) (upd (tko (a 18) j) j (-1)) = _; rw [tko_s]) ?_
    refine MW.iincj dX6_solveExactly_34 rfl rfl rfl ?_
    refine MW.goto 9 dX6_solveExactly_37 (by decide) ?_
    exact ih (j + 1) (by omega) hQ
set_option maxHeartbeats 2000000 in
theorem lx_272 {k : Nat} (hk : i 17 = nI k) (hk8 : k ≤ 8) {x1 x2 x3 : Int32} {z5 z6 : Option Value} {wh bs : Nat → Int32} : ∀ (r j : Nat), j + r = k → MW (En l D t b L xs) MX6_solveExactly (d + 3) 272 [some (.ref (q 18)), some (.int x1), some (.int x2), some (.int x3), some (.int (nI j)), z5, z6] [] (hx t q i a w (cpk bs wh j) bs) mc ms (rt none (hx t q i a w (cpk bs wh k) bs) mc ms) := by
  intro r
  induction r with
  | zero =>
    intro j hr
    obtain rfl : j = k := by omega
    refine MW.iload dX6_solveExactly_272 rfl ?_
    refine MW.aload_n dX6_solveExactly_274 rfl ?_
    refine MW.getf fX6_solveExactly_275 18 rfl rfl ?_
    refine MW.icmp_ge 301 dX6_solveExactly_278 (by decide) (fun hc278 => ?_) (fun hc278 => absurd (show i 17 ≤ nI j by rw [hk]; exact nI_le (by omega) (by omega)) hc278)
    exact MW.vreturn dX6_solveExactly_301 rfl rt_r
  | succ r ih =>
    intro j hr
    have hj : j < 8 := by omega
    refine MW.iload dX6_solveExactly_272 rfl ?_
    refine MW.aload_n dX6_solveExactly_274 rfl ?_
    refine MW.getf fX6_solveExactly_275 18 rfl rfl ?_
    refine MW.icmp_ge 301 dX6_solveExactly_278 (by decide) (fun hc278 => absurd hc278 (show ¬ i 17 ≤ nI j by rw [hk]; exact nI_ge (by omega) (by omega))) (fun hc278 => ?_)
    refine MW.aload_n dX6_solveExactly_281 rfl ?_
    refine MW.getf fX6_solveExactly_282 18 rfl rfl ?_
    refine MW.iload dX6_solveExactly_285 rfl ?_
    refine MW.aload_n dX6_solveExactly_287 rfl ?_
    refine MW.getf fX6_solveExactly_288 18 rfl rfl ?_
    refine MW.iload dX6_solveExactly_291 rfl ?_
    refine MW.iaj dX6_solveExactly_293 27 0 rfl rfl hj (by decide) ?_
    refine MW.isj dX6_solveExactly_294 26 0 rfl rfl hj (by decide) ?_
    refine MW.heap hw_a26 ?_
    refine MW.heap (h' := hx t q i a w (cpk bs wh (j + 1)) bs) (by show hx t q i a w (upd (cpk bs wh j) j (bs j)) bs = _; rw [cpk_s]) ?_
    refine MW.iincj dX6_solveExactly_295 rfl rfl rfl ?_
    refine MW.goto 272 dX6_solveExactly_298 (by decide) ?_
    exact ih (j + 1) (by omega)
set_option maxHeartbeats 2000000 in
theorem m_solveExactly {k : Nat} (hk : i 17 = nI k) (hk8 : k ≤ 8) {n : Nat} (hn : i 12 = nI n) (hn12 : n ≤ 12) : MC (En l D t b L xs) MX6_solveExactly (d + 3) [.ref (q 18)] (hw t q i a w) mc ms (rt none (hx t q i a w (cpk (mxB i a n k) (tko (a 17) k) k) (mxB i a n k)) mc ms) := by
  show MW _ _ _ 0 [some (.ref (q 18)), none, none, none, none, none, none] [] _ _ _ _
  refine MW.iconst (v := -1) dX6_solveExactly_0 (by decide) ?_
  refine MW.istore_n dX6_solveExactly_1 rfl rfl ?_
  refine MW.iconst (v := 0) dX6_solveExactly_2 (by decide) ?_
  refine MW.istore_n dX6_solveExactly_3 rfl rfl ?_
  refine MW.iconst (v := 0) dX6_solveExactly_4 (by decide) ?_
  refine MW.istore_n dX6_solveExactly_5 rfl rfl ?_
  refine MW.iconst (v := 0) dX6_solveExactly_6 (by decide) ?_
  refine MW.istore dX6_solveExactly_7 rfl rfl ?_
  refine MW.heap (h' := hx t q i a w (tko (a 17) 0) (tko (a 18) 0)) (by rw [tko_0, tko_0]; show _ = hw t q i (au (au a 17 (a 17)) 18 (a 18)) w; rw [au_self, au_self]) ?_
  refine lx_9 hk hk8 k 0 (by omega) ?_
  refine MW.aload_n dX6_solveExactly_40 rfl ?_
  refine MW.getf fX6_solveExactly_41 18 rfl rfl ?_
  refine MW.if_ne 48 dX6_solveExactly_44 (by decide) (fun hc44 => ?_) (fun hc44 => ?_)
  · skip
    obtain ⟨r, rfl⟩ : ∃ r, k = r + 1 := by
      rcases Nat.eq_zero_or_pos k with z | z
      · exact absurd (show i 17 = 0 by rw [hk, z]; rfl) hc44
      · exact ⟨k - 1, by omega⟩
    refine MW.aload_n dX6_solveExactly_48 rfl ?_
    refine MW.getf fX6_solveExactly_49 18 rfl rfl ?_
    refine MW.iconst (v := 0) dX6_solveExactly_52 (by decide) ?_
    refine MW.aload_n dX6_solveExactly_53 rfl ?_
    refine MW.getf fX6_solveExactly_54 18 rfl rfl ?_
    refine MW.if_le 64 dX6_solveExactly_57 (by decide) (fun hc57 => ?_) (fun hc57 => ?_)
    · skip
      have e0 : cd n 0 = -1 := by
        rw [hn] at hc57
        have h0 : n = 0 := by
          rcases Nat.eq_zero_or_pos n with z | z
          · exact z
          · exact absurd hc57 (show ¬ nI n ≤ 0 from Int32.not_le.mpr (nI_lt (a := 0) z (by omega)))
        rw [h0]; rfl
      refine MW.iconst (v := -1) dX6_solveExactly_64 (by decide) ?_
      refine MW.isj dX6_solveExactly_65 26 0 rfl rfl (show 0 < 8 by omega) (by decide) ?_
      refine MW.heap hw_a26 ?_
      refine MW.heap (h' := hx t q i a w (upd (tko (a 17) (r + 1)) 0 (cd n 0)) (tko (a 18) (r + 1))) (by rw [e0]; rfl) ?_
      refine lx_cand hk hk8 hn hn12 (lx_A hk hk8 hn hn12 r) (p := 0) (wh := tko (a 17) (r + 1)) (by omega) (fun m h1 h2 => if_pos h2) n 0 (-1, 0, tko (a 18) (r + 1)) _ _ _ (by omega) (fun z4 z5 z6 => ?_)
      refine MW.iload_n dX6_solveExactly_91 rfl ?_
      refine MW.if_lt 66 dX6_solveExactly_92 (by decide) (fun _ => ?_) (fun hc92 => absurd m1_neg hc92)
      refine MW.iload_n dX6_solveExactly_66 rfl ?_
      refine MW.if_lt 269 dX6_solveExactly_67 (by decide) (fun _ => ?_) (fun hc67 => absurd m1_neg hc67)
      refine MW.iconst (v := 0) dX6_solveExactly_269 (by decide) ?_
      refine MW.istore dX6_solveExactly_270 rfl rfl ?_
      have eB : (mxS i a n (r + 1) r (tko (a 17) (r + 1)) (lp (fun c s => cS (ftP (au a 17 (upd (tko (a 17) (r + 1)) 0 (nI c))) (r + 1) 0 c) (mxS i a n (r + 1) r (upd (tko (a 17) (r + 1)) 0 (nI c)) s) s) n 0 (-1, 0, tko (a 18) (r + 1)))).2.2 = mxB i a n (r + 1) := by
        show _ = (mxS i a n (r + 1) r (tko (a 17) (r + 1)) (lp (fun c9 s => cS (ftP (au a 17 (upd (tko (a 17) (r + 1)) (r + 1 - (r + 1)) (nI c9))) (r + 1) (r + 1 - (r + 1)) c9) (mxS i a n (r + 1) r (upd (tko (a 17) (r + 1)) (r + 1 - (r + 1)) (nI c9)) s) s) n 0 (-1, 0, tko (a 18) (r + 1)))).2.2
        rw [Nat.sub_self]
      rw [eB]
      refine MW.heap (h' := hx t q i a w (cpk (mxB i a n (r + 1)) (tko (a 17) (r + 1)) 0) (mxB i a n (r + 1))) (by rw [cpk_0]) ?_
      exact lx_272 hk hk8 (r + 1) 0 (by omega)
    · skip
      have e0 : cd n 0 = 0 := by
        rw [hn] at hc57
        have h0 : 0 < n := by
          rcases Nat.eq_zero_or_pos n with z | z
          · rw [z] at hc57; exact absurd (show (nI 0 : Int32) ≤ 0 by decide) hc57
          · exact z
        rw [cd_lt h0]; rfl
      refine MW.iconst (v := 0) dX6_solveExactly_60 (by decide) ?_
      refine MW.goto 65 dX6_solveExactly_61 (by decide) ?_
      refine MW.isj dX6_solveExactly_65 26 0 rfl rfl (show 0 < 8 by omega) (by decide) ?_
      refine MW.heap hw_a26 ?_
      refine MW.heap (h' := hx t q i a w (upd (tko (a 17) (r + 1)) 0 (cd n 0)) (tko (a 18) (r + 1))) (by rw [e0]; rfl) ?_
      refine lx_cand hk hk8 hn hn12 (lx_A hk hk8 hn hn12 r) (p := 0) (wh := tko (a 17) (r + 1)) (by omega) (fun m h1 h2 => if_pos h2) n 0 (-1, 0, tko (a 18) (r + 1)) _ _ _ (by omega) (fun z4 z5 z6 => ?_)
      refine MW.iload_n dX6_solveExactly_91 rfl ?_
      refine MW.if_lt 66 dX6_solveExactly_92 (by decide) (fun _ => ?_) (fun hc92 => absurd m1_neg hc92)
      refine MW.iload_n dX6_solveExactly_66 rfl ?_
      refine MW.if_lt 269 dX6_solveExactly_67 (by decide) (fun _ => ?_) (fun hc67 => absurd m1_neg hc67)
      refine MW.iconst (v := 0) dX6_solveExactly_269 (by decide) ?_
      refine MW.istore dX6_solveExactly_270 rfl rfl ?_
      have eB : (mxS i a n (r + 1) r (tko (a 17) (r + 1)) (lp (fun c s => cS (ftP (au a 17 (upd (tko (a 17) (r + 1)) 0 (nI c))) (r + 1) 0 c) (mxS i a n (r + 1) r (upd (tko (a 17) (r + 1)) 0 (nI c)) s) s) n 0 (-1, 0, tko (a 18) (r + 1)))).2.2 = mxB i a n (r + 1) := by
        show _ = (mxS i a n (r + 1) r (tko (a 17) (r + 1)) (lp (fun c9 s => cS (ftP (au a 17 (upd (tko (a 17) (r + 1)) (r + 1 - (r + 1)) (nI c9))) (r + 1) (r + 1 - (r + 1)) c9) (mxS i a n (r + 1) r (upd (tko (a 17) (r + 1)) (r + 1 - (r + 1)) (nI c9)) s) s) n 0 (-1, 0, tko (a 18) (r + 1)))).2.2
        rw [Nat.sub_self]
      rw [eB]
      refine MW.heap (h' := hx t q i a w (cpk (mxB i a n (r + 1)) (tko (a 17) (r + 1)) 0) (mxB i a n (r + 1))) (by rw [cpk_0]) ?_
      exact lx_272 hk hk8 (r + 1) 0 (by omega)
  · skip
    have hk0 : k = 0 := by
      rw [hk] at hc44
      exact (nI_eq (b := 0) (by omega) (by omega)).mp hc44
    subst hk0
    have hB : mxB i a n 0 = a 18 := by
      unfold mxB mxS
      by_cases hz : (((-1 : Int32) < stn (tko (a 17) 0) 0 ∨ stn (tko (a 17) 0) 0 = -1 ∧ (0 : Int32) < wtn (a 12) (tko (a 17) 0) 0) ∧ brM i (a 12) (tko (a 17) 0) 0)
      · rw [cS_t hz]; show cpk (tko (a 17) 0) (tko (a 18) 0) 0 = _; rw [cpk_0, tko_0]
      · rw [cS_f hz]; show tko (a 18) 0 = _; rw [tko_0]
    exact MW.vreturn dX6_solveExactly_47 rfl ⟨rfl, by rw [cpk_0, hB, tko_0, tko_0], rfl, rfl⟩
end Model4
/-- the reference's rule: barred from the cell by height, cold, danger or stops -/
def rkP (a : Nat → Nat → Int32) (k j c : Nat) : Prop := ko a k j (nI c) 2 ∨ ko a k j (nI c) 3 ∨ ko a k j (nI c) 4 ∨ ko a k j (nI c) 5
noncomputable def pms (a : Nat → Nat → Int32) (n k s j : Nat) (st : Nat × (Nat → Int32)) : Nat × (Nat → Int32) := if a 15 j = nI s then (pfv (pfo (fun c => ¬ rkP (au a 17 st.2) k j c) (n - st.1) st.1) st.1, pfw (pfo (fun c => ¬ rkP (au a 17 st.2) k j c) (n - st.1) st.1) st.2 j) else st
noncomputable def pmj (a : Nat → Nat → Int32) (n k s : Nat) : Nat → Nat → Nat × (Nat → Int32) → Nat × (Nat → Int32)
  | 0, _, st => st
  | r + 1, j, st => pmj a n k s r (j + 1) (pms a n k s j st)
noncomputable def pmo (a : Nat → Nat → Int32) (n k : Nat) : Nat → Nat × (Nat → Int32) → Nat × (Nat → Int32)
  | 0, st => st
  | s + 1, st => pmo a n k s (pmj a n k (s + 1) k 0 st)
section Rule2
variable {l : Launch} {D : va_G} {t : ty4} {b L : Nat} {xs : Nat → Int32} {q : Nat → Nat} {i : Nat → Int32} {a : Nat → Nat → Int32} {w : Int64} {d mc ms : Nat}
set_option maxHeartbeats 2000000 in
theorem ly_2 {k : Nat} (hk : i 17 = nI k) (hk8 : k ≤ 8) {Q : mi_O → va_W → Nat → Nat → Prop} : ∀ (r j : Nat), j + r = k → (MW (En l D t b L xs) MX6_solveByRule (d + 1) 23 [some (.ref (q 18)), some (.int (nI k)), none, none, none] [] (hw t q i (au a 17 (tko (a 17) k)) w) mc ms Q) → MW (En l D t b L xs) MX6_solveByRule (d + 1) 2 [some (.ref (q 18)), some (.int (nI j)), none, none, none] [] (hw t q i (au a 17 (tko (a 17) j)) w) mc ms Q := by
  intro r
  induction r with
  | zero =>
    intro j hr hQ
    obtain rfl : j = k := by omega
    refine MW.iload_n dX6_solveByRule_2 rfl ?_
    refine MW.aload_n dX6_solveByRule_3 rfl ?_
    refine MW.getf fX6_solveByRule_4 18 rfl rfl ?_
    refine MW.icmp_ge 23 dX6_solveByRule_7 (by decide) (fun hc7 => ?_) (fun hc7 => absurd (show i 17 ≤ nI j by rw [hk]; exact nI_le (by omega) (by omega)) hc7)
    exact hQ
  | succ r ih =>
    intro j hr hQ
    have hj : j < 8 := by omega
    refine MW.iload_n dX6_solveByRule_2 rfl ?_
    refine MW.aload_n dX6_solveByRule_3 rfl ?_
    refine MW.getf fX6_solveByRule_4 18 rfl rfl ?_
    refine MW.icmp_ge 23 dX6_solveByRule_7 (by decide) (fun hc7 => absurd hc7 (show ¬ i 17 ≤ nI j by rw [hk]; exact nI_ge (by omega) (by omega))) (fun hc7 => ?_)
    refine MW.aload_n dX6_solveByRule_10 rfl ?_
    refine MW.getf fX6_solveByRule_11 18 rfl rfl ?_
    refine MW.iload_n dX6_solveByRule_14 rfl ?_
    refine MW.iconst (v := -1) dX6_solveByRule_15 (by decide) ?_
    refine MW.isj dX6_solveByRule_16 26 0 rfl rfl hj (by decide) ?_
    refine MW.heap hw_a26 ?_
    refine MW.heap (h' := hw t q i (au a 17 (tko (a 17) (j + 1))) w) (by rw [au_au, au_at, tko_s]) ?_
    refine MW.iincj dX6_solveByRule_17 rfl rfl rfl ?_
    refine MW.goto 2 dX6_solveByRule_20 (by decide) ?_
    exact ih (j + 1) (by omega) hQ
set_option maxHeartbeats 2000000 in
theorem ly_57 {k : Nat} (hk : i 17 = nI k) (hk8 : k ≤ 8) {n : Nat} (hn : i 12 = nI n) (hn12 : n ≤ 12) {j : Nat} (hj : j < 8) {x : Nat} {x1 x2 : Int32} {wh : Nat → Int32} {Q : mi_O → va_W → Nat → Nat → Prop} (hQ : ∀ c, c ≤ n → ((c < n ∧ pfo (fun c => ¬ rkP (au a 17 wh) k j c) (n - x) x = some c) ∨ (c = n ∧ pfo (fun c => ¬ rkP (au a 17 wh) k j c) (n - x) x = none)) → MW (En l D t b L xs) MX6_solveByRule (d + 1) 116 [some (.ref (q 18)), some (.int x1), some (.int x2), some (.int (nI j)), some (.int (nI c))] [] (hw t q i (au a 17 wh) w) mc ms Q) : ∀ (r c : Nat), c + r = n → pfo (fun c => ¬ rkP (au a 17 wh) k j c) r c = pfo (fun c => ¬ rkP (au a 17 wh) k j c) (n - x) x → MW (En l D t b L xs) MX6_solveByRule (d + 1) 57 [some (.ref (q 18)), some (.int x1), some (.int x2), some (.int (nI j)), some (.int (nI c))] [] (hw t q i (au a 17 wh) w) mc ms Q := by
  intro r
  induction r with
  | zero =>
    intro c hr hI
    obtain rfl : c = n := by omega
    refine MW.iload dX6_solveByRule_57 rfl ?_
    refine MW.aload_n dX6_solveByRule_59 rfl ?_
    refine MW.getf fX6_solveByRule_60 18 rfl rfl ?_
    refine MW.icmp_ge 116 dX6_solveByRule_63 (by decide) (fun hc63 => ?_) (fun hc63 => absurd (show i 12 ≤ nI c by rw [hn]; exact nI_le (by omega) (by omega)) hc63)
    exact hQ c (Nat.le_refl _) (Or.inr ⟨rfl, hI.symm⟩)
  | succ r ih =>
    intro c hr hI
    have hm : c < 12 := by omega
    refine MW.iload dX6_solveByRule_57 rfl ?_
    refine MW.aload_n dX6_solveByRule_59 rfl ?_
    refine MW.getf fX6_solveByRule_60 18 rfl rfl ?_
    refine MW.icmp_ge 116 dX6_solveByRule_63 (by decide) (fun hc63 => absurd hc63 (show ¬ i 12 ≤ nI c by rw [hn]; exact nI_ge (by omega) (by omega))) (fun hc63 => ?_)
    refine MW.aload_n dX6_solveByRule_66 rfl ?_
    refine MW.iconst (v := 2) dX6_solveByRule_67 (by decide) ?_
    refine MW.iload_n dX6_solveByRule_68 rfl ?_
    refine MW.iload dX6_solveByRule_69 rfl ?_
    refine MW.callV1 fX6_solveByRule_71 18 rfl (m_ko2 (k := k) (a := au a 17 wh) hj hm) rfl rfl rfl rfl (Nat.le_of_ble_eq_true rfl) ?_
    refine MW.if_ne 110 dX6_solveByRule_74 (by decide) (fun hc74 => ?_) (fun hc74 => ?_)
    · skip
      refine MW.iincj dX6_solveByRule_110 rfl rfl rfl ?_
      refine MW.goto 57 dX6_solveByRule_113 (by decide) ?_
      exact ih (c + 1) (by omega) (by rw [← hI]; exact (pfo_f (fun z => z (by first | exact Or.inl (nz hc74) | exact Or.inr (Or.inl (nz hc85)) | exact Or.inr (Or.inr (Or.inl (nz hc96))) | exact Or.inr (Or.inr (Or.inr (nz hc107)))))).symm)
    · skip
      refine MW.aload_n dX6_solveByRule_77 rfl ?_
      refine MW.iconst (v := 3) dX6_solveByRule_78 (by decide) ?_
      refine MW.iload_n dX6_solveByRule_79 rfl ?_
      refine MW.iload dX6_solveByRule_80 rfl ?_
      refine MW.callV1 fX6_solveByRule_82 18 rfl (m_ko3 (k := k) (a := au a 17 wh) hj hm) rfl rfl rfl rfl (Nat.le_of_ble_eq_true rfl) ?_
      refine MW.if_ne 110 dX6_solveByRule_85 (by decide) (fun hc85 => ?_) (fun hc85 => ?_)
      · skip
        refine MW.iincj dX6_solveByRule_110 rfl rfl rfl ?_
        refine MW.goto 57 dX6_solveByRule_113 (by decide) ?_
        exact ih (c + 1) (by omega) (by rw [← hI]; exact (pfo_f (fun z => z (by first | exact Or.inl (nz hc74) | exact Or.inr (Or.inl (nz hc85)) | exact Or.inr (Or.inr (Or.inl (nz hc96))) | exact Or.inr (Or.inr (Or.inr (nz hc107)))))).symm)
      · skip
        refine MW.aload_n dX6_solveByRule_88 rfl ?_
        refine MW.iconst (v := 4) dX6_solveByRule_89 (by decide) ?_
        refine MW.iload_n dX6_solveByRule_90 rfl ?_
        refine MW.iload dX6_solveByRule_91 rfl ?_
        refine MW.callV1 fX6_solveByRule_93 18 rfl (m_ko4 (a := au a 17 wh) hk hk8 hj) rfl rfl rfl rfl (Nat.le_of_ble_eq_true rfl) ?_
        refine MW.if_ne 110 dX6_solveByRule_96 (by decide) (fun hc96 => ?_) (fun hc96 => ?_)
        · skip
          refine MW.iincj dX6_solveByRule_110 rfl rfl rfl ?_
          refine MW.goto 57 dX6_solveByRule_113 (by decide) ?_
          exact ih (c + 1) (by omega) (by rw [← hI]; exact (pfo_f (fun z => z (by first | exact Or.inl (nz hc74) | exact Or.inr (Or.inl (nz hc85)) | exact Or.inr (Or.inr (Or.inl (nz hc96))) | exact Or.inr (Or.inr (Or.inr (nz hc107)))))).symm)
        · skip
          refine MW.aload_n dX6_solveByRule_99 rfl ?_
          refine MW.iconst (v := 5) dX6_solveByRule_100 (by decide) ?_
          refine MW.iload_n dX6_solveByRule_101 rfl ?_
          refine MW.iload dX6_solveByRule_102 rfl ?_
          refine MW.callV1 fX6_solveByRule_104 18 rfl (m_ko5 (a := au a 17 wh) hk hk8 hj) rfl rfl rfl rfl (Nat.le_of_ble_eq_true rfl) ?_
          refine MW.if_eq 116 dX6_solveByRule_107 (by decide) (fun hc107 => ?_) (fun hc107 => ?_)
          · skip
            exact hQ c (by omega) (Or.inl ⟨by omega, by rw [← hI]; exact pfo_t (fun z => z.elim (zz hc74) (fun z => z.elim (zz hc85) (fun z => z.elim (zz hc96) (zz hc107))))⟩)
          · skip
            refine MW.iincj dX6_solveByRule_110 rfl rfl rfl ?_
            refine MW.goto 57 dX6_solveByRule_113 (by decide) ?_
            exact ih (c + 1) (by omega) (by rw [← hI]; exact (pfo_f (fun z => z (by first | exact Or.inl (nz hc74) | exact Or.inr (Or.inl (nz hc85)) | exact Or.inr (Or.inr (Or.inl (nz hc96))) | exact Or.inr (Or.inr (Or.inr (nz hc107)))))).symm)
set_option maxHeartbeats 2000000 in
theorem ly_34 {k : Nat} (hk : i 17 = nI k) (hk8 : k ≤ 8) {n : Nat} (hn : i 12 = nI n) (hn12 : n ≤ 12) {s : Nat} {Q : mi_O → va_W → Nat → Nat → Prop} : ∀ (r j x : Nat) (wh : Nat → Int32) (z4 : Option Value), j + r = k → x ≤ n → (∀ x1 wh1 z4, x1 ≤ n → pmj a n k s r j (x, wh) = (x1, wh1) → MW (En l D t b L xs) MX6_solveByRule (d + 1) 142 [some (.ref (q 18)), some (.int (nI x1 - 1)), some (.int (nI s)), some (.int (nI k)), z4] [] (hw t q i (au a 17 wh1) w) mc ms Q) → MW (En l D t b L xs) MX6_solveByRule (d + 1) 34 [some (.ref (q 18)), some (.int (nI x - 1)), some (.int (nI s)), some (.int (nI j)), z4] [] (hw t q i (au a 17 wh) w) mc ms Q := by
  intro r
  induction r with
  | zero =>
    intro j x wh z4 hr hx hQ
    obtain rfl : j = k := by omega
    refine MW.iload_n dX6_solveByRule_34 rfl ?_
    refine MW.aload_n dX6_solveByRule_35 rfl ?_
    refine MW.getf fX6_solveByRule_36 18 rfl rfl ?_
    refine MW.icmp_ge 142 dX6_solveByRule_39 (by decide) (fun hc39 => ?_) (fun hc39 => absurd (show i 17 ≤ nI j by rw [hk]; exact nI_le (by omega) (by omega)) hc39)
    exact hQ x wh _ hx rfl
  | succ r ih =>
    intro j x wh z4 hr hx hQ
    have hj : j < 8 := by omega
    refine MW.iload_n dX6_solveByRule_34 rfl ?_
    refine MW.aload_n dX6_solveByRule_35 rfl ?_
    refine MW.getf fX6_solveByRule_36 18 rfl rfl ?_
    refine MW.icmp_ge 142 dX6_solveByRule_39 (by decide) (fun hc39 => absurd hc39 (show ¬ i 17 ≤ nI j by rw [hk]; exact nI_ge (by omega) (by omega))) (fun hc39 => ?_)
    refine MW.aload_n dX6_solveByRule_42 rfl ?_
    refine MW.getf fX6_solveByRule_43 18 rfl rfl ?_
    refine MW.iload_n dX6_solveByRule_46 rfl ?_
    refine MW.iaj dX6_solveByRule_47 24 0 rfl rfl hj (by decide) ?_
    refine MW.iload_n dX6_solveByRule_48 rfl ?_
    refine MW.icmp_ne 136 dX6_solveByRule_49 (by decide) (fun hc49 => ?_) (fun hc49 => ?_)
    · skip
      refine MW.iincj dX6_solveByRule_136 rfl rfl rfl ?_
      refine MW.goto 34 dX6_solveByRule_139 (by decide) ?_
      exact ih (j + 1) x wh _ (by omega) hx (fun x1 wh1 z4 h1 h2 => hQ x1 wh1 z4 h1 (by rw [← h2]; show pmj a n k s r (j + 1) (pms a n k s j (x, wh)) = _; rw [show pms a n k s j (x, wh) = _ from if_neg (show ¬ a 15 j = nI s from hc49)]))
    · skip
      refine MW.iload_n dX6_solveByRule_52 rfl ?_
      refine MW.iconst (v := 1) dX6_solveByRule_53 (by decide) ?_
      refine MW.iadd dX6_solveByRule_54 ?_
      refine MW.top (v' := .int (nI x)) (by rw [Int32.sub_add_cancel]) ?_
      refine MW.istore dX6_solveByRule_55 rfl rfl ?_
      refine ly_57 hk hk8 hn hn12 hj (fun c hcn hor => ?_) (n - x) x (by omega) rfl
      refine MW.iload dX6_solveByRule_116 rfl ?_
      refine MW.aload_n dX6_solveByRule_118 rfl ?_
      refine MW.getf fX6_solveByRule_119 18 rfl rfl ?_
      refine MW.icmp_ge 136 dX6_solveByRule_122 (by decide) (fun hc122 => ?_) (fun hc122 => ?_)
      · skip
        rcases hor with ⟨hcn, -⟩ | ⟨rfl, hno⟩
        · exact absurd hc122 (show ¬ i 12 ≤ nI c by rw [hn]; exact nI_ge (by omega) (by omega))
        refine MW.iincj dX6_solveByRule_136 rfl rfl rfl ?_
        refine MW.goto 34 dX6_solveByRule_139 (by decide) ?_
        first
          | exact ih (j + 1) x wh _ (by omega) hx (fun x1 wh1 z4 h1 h2 => hQ x1 wh1 z4 h1 (by rw [← h2]; show pmj a _ k s r (j + 1) (pms a _ k s j (x, wh)) = _; rw [show pms a _ k s j (x, wh) = _ from if_pos (show a 15 j = nI s from hc49), hno]; rfl))
          | exact ih (j + 1) (c + 1) (upd wh j (nI c)) _ (by omega) (by omega) (fun x1 wh1 z4 h1 h2 => hQ x1 wh1 z4 h1 (by rw [← h2]; show pmj a n k s r (j + 1) (pms a n k s j (x, wh)) = _; rw [show pms a n k s j (x, wh) = _ from if_pos (show a 15 j = nI s from hc49), hso]; rfl))
      · skip
        rcases hor with ⟨hcn, hso⟩ | ⟨rfl, -⟩
        rotate_left
        · exact absurd (show i 12 ≤ nI c by rw [hn]; exact nI_le (by omega) (by omega)) hc122
        refine MW.aload_n dX6_solveByRule_125 rfl ?_
        refine MW.getf fX6_solveByRule_126 18 rfl rfl ?_
        refine MW.iload_n dX6_solveByRule_129 rfl ?_
        refine MW.iload dX6_solveByRule_130 rfl ?_
        refine MW.isj dX6_solveByRule_132 26 0 rfl rfl hj (by decide) ?_
        refine MW.heap hw_a26 ?_
        refine MW.heap (h' := hw t q i (au a 17 (upd wh j (nI c))) w) (by rw [au_au, au_at]) ?_
        refine MW.iload dX6_solveByRule_133 rfl ?_
        refine MW.istore_n dX6_solveByRule_135 rfl rfl ?_
        refine MW.locs (lv' := [some (.ref (q 18)), some (.int (nI (c + 1) - 1)), some (.int (nI s)), some (.int (nI j)), some (.int (nI c))]) (by rw [nI_pred]; rfl) ?_
        refine MW.iincj dX6_solveByRule_136 rfl rfl rfl ?_
        refine MW.goto 34 dX6_solveByRule_139 (by decide) ?_
        first
          | exact ih (j + 1) x wh _ (by omega) hx (fun x1 wh1 z4 h1 h2 => hQ x1 wh1 z4 h1 (by rw [← h2]; show pmj a _ k s r (j + 1) (pms a _ k s j (x, wh)) = _; rw [show pms a _ k s j (x, wh) = _ from if_pos (show a 15 j = nI s from hc49), hno]; rfl))
          | exact ih (j + 1) (c + 1) (upd wh j (nI c)) _ (by omega) (by omega) (fun x1 wh1 z4 h1 h2 => hQ x1 wh1 z4 h1 (by rw [← h2]; show pmj a n k s r (j + 1) (pms a n k s j (x, wh)) = _; rw [show pms a n k s j (x, wh) = _ from if_pos (show a 15 j = nI s from hc49), hso]; rfl))
set_option maxHeartbeats 2000000 in
theorem ly_28 {k : Nat} (hk : i 17 = nI k) (hk8 : k ≤ 8) {n : Nat} (hn : i 12 = nI n) (hn12 : n ≤ 12) : ∀ (s x : Nat) (wh : Nat → Int32) (z3 z4 : Option Value), s ≤ 9 → x ≤ n → pmo a n k s (x, wh) = pmo a n k 9 (0, tko (a 17) k) → MW (En l D t b L xs) MX6_solveByRule (d + 1) 28 [some (.ref (q 18)), some (.int (nI x - 1)), some (.int (nI s)), z3, z4] [] (hw t q i (au a 17 wh) w) mc ms (rt none (hw t q i (au a 17 (pmo a n k 9 (0, tko (a 17) k)).2) w) mc ms) := by
  intro s
  induction s with
  | zero =>
    intro x wh z3 z4 hs hx hI
    refine MW.iload_n dX6_solveByRule_28 rfl ?_
    refine MW.if_le 148 dX6_solveByRule_29 (by decide) (fun hc29 => ?_) (fun hc29 => absurd (show (nI 0 : Int32) ≤ 0 by decide) hc29)
    exact MW.vreturn dX6_solveByRule_148 rfl ⟨rfl, by rw [← hI]; rfl, rfl, rfl⟩
  | succ s ih =>
    intro x wh z3 z4 hs hx hI
    refine MW.iload_n dX6_solveByRule_28 rfl ?_
    refine MW.if_le 148 dX6_solveByRule_29 (by decide) (fun hc29 => absurd hc29 (show ¬ nI (s + 1) ≤ 0 from nI_nle (by omega) (by omega))) (fun hc29 => ?_)
    refine MW.iconst (v := 0) dX6_solveByRule_32 (by decide) ?_
    refine MW.istore_n dX6_solveByRule_33 rfl rfl ?_
    refine ly_34 hk hk8 hn hn12 k 0 x wh _ (by omega) hx (fun x1 wh1 z4 h1 h2 => ?_)
    refine MW.iincd dX6_solveByRule_142 rfl rfl rfl ?_
    refine MW.goto 28 dX6_solveByRule_145 (by decide) ?_
    exact ih x1 wh1 _ _ (by omega) h1 (by rw [← hI, ← h2]; rfl)
theorem m_solveByRule {k : Nat} (hk : i 17 = nI k) (hk8 : k ≤ 8) {n : Nat} (hn : i 12 = nI n) (hn12 : n ≤ 12) : MC (En l D t b L xs) MX6_solveByRule (d + 1) [.ref (q 18)] (hw t q i a w) mc ms (rt none (hw t q i (au a 17 (pmo a n k 9 (0, tko (a 17) k)).2) w) mc ms) := by
  show MW _ _ _ 0 [some (.ref (q 18)), none, none, none, none] [] _ _ _ _
  refine MW.iconst (v := 0) dX6_solveByRule_0 (by decide) ?_
  refine MW.istore_n dX6_solveByRule_1 rfl rfl ?_
  refine MW.heap (h' := hw t q i (au a 17 (tko (a 17) 0)) w) (by rw [tko_0, au_self]) ?_
  refine ly_2 hk hk8 k 0 (by omega) ?_
  refine MW.iconst (v := -1) dX6_solveByRule_23 (by decide) ?_
  refine MW.istore_n dX6_solveByRule_24 rfl rfl ?_
  refine MW.bipush (v := 9) dX6_solveByRule_25 (by decide) ?_
  refine MW.istore_n dX6_solveByRule_27 rfl rfl ?_
  exact ly_28 hk hk8 hn hn12 9 0 _ none none (by omega) (by omega) rfl
end Rule2
