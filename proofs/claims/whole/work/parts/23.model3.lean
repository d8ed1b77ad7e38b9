/-- the reference's search: all placings of the pallets from k - r on, in order -/
noncomputable def mxS (i : Nat → Int32) (a : Nat → Nat → Int32) (n k : Nat) : Nat → (Nat → Int32) → SB → SB
  | 0, wh, sb => cS ((sb.1 < stn wh k ∨ stn wh k = sb.1 ∧ sb.2.1 < wtn (a 12) wh k) ∧ brM i (a 12) wh k) (stn wh k, wtn (a 12) wh k, cpk wh sb.2.2 k) sb
  | r + 1, wh, sb => mxS i a n k r wh (lp (fun c s => cS (ftP (au a 17 (upd wh (k - (r + 1)) (nI c))) k (k - (r + 1)) c) (mxS i a n k r (upd wh (k - (r + 1)) (nI c)) s) s) n 0 sb)
abbrev hx (t : ty4) (q : Nat → Nat) (i : Nat → Int32) (a : Nat → Nat → Int32) (w : Int64) (wh bs : Nat → Int32) : va_W := hw t q i (au (au a 17 wh) 18 bs) w
section Model3
variable {l : Launch} {D : va_G} {t : ty4} {b L : Nat} {xs : Nat → Int32} {q : Nat → Nat} {i : Nat → Int32} {a : Nat → Nat → Int32} {w : Int64} {d mc ms : Nat}
set_option maxHeartbeats 2000000 in
theorem lx_250 {k : Nat} (hk : i 17 = nI k) (hk8 : k ≤ 8) {n : Nat} (hn : i 12 = nI n) (hn12 : n ≤ 12) {p c : Nat} (hp : p < 8) (hc : c ≤ n) {wh bs : Nat → Int32} {x1 x2 : Int32} {Q : mi_O → va_W → Nat → Nat → Prop} (z4 z5 z6 : Option Value) (hQ : ∀ z4 z5 z6 : Option Value, MW (En l D t b L xs) MX6_solveExactly (d + 3) 66 [some (.ref (q 18)), some (.int x1), some (.int x2), some (.int (nI p)), z4, z5, z6] [] (hx t q i a w (upd wh p (cd n (c + 1))) bs) mc ms Q) : MW (En l D t b L xs) MX6_solveExactly (d + 3) 250 [some (.ref (q 18)), some (.int x1), some (.int x2), some (.int (nI p)), z4, z5, z6] [] (hx t q i a w (upd wh p (cd n c)) bs) mc ms Q := by
  refine MW.aload_n dX6_solveExactly_250 rfl ?_
  refine MW.getf fX6_solveExactly_251 18 rfl rfl ?_
  refine MW.iload_n dX6_solveExactly_254 rfl ?_
  refine MW.aload_n dX6_solveExactly_255 rfl ?_
  refine MW.aload_n dX6_solveExactly_256 rfl ?_
  refine MW.getf fX6_solveExactly_257 18 rfl rfl ?_
  refine MW.iload_n dX6_solveExactly_260 rfl ?_
  refine MW.iaj dX6_solveExactly_261 26 0 rfl rfl hp (by decide) ?_
  refine MW.top (v' := .int (cd n c)) (by show Value.int (upd wh p (cd n c) p) = _; rw [pk_us]) ?_
  refine MW.callV1 fX6_solveExactly_262 18 rfl (m_nextPlace hn hn12 hc) rfl rfl rfl rfl (Nat.le_of_ble_eq_true rfl) ?_
  refine MW.isj dX6_solveExactly_265 26 0 rfl rfl hp (by decide) ?_
  refine MW.heap hw_a26 ?_
  refine MW.heap (h' := hx t q i a w (upd wh p (cd n (c + 1))) bs) (by show hx t q i a w (upd (upd wh p (cd n c)) p (cd n (c + 1))) bs = _; rw [upd_upd]) ?_
  refine MW.goto 66 dX6_solveExactly_266 (by decide) ?_
  exact hQ _ _ _
set_option maxHeartbeats 2000000 in
theorem lx_91 {k : Nat} (hk : i 17 = nI k) (hk8 : k ≤ 8) {n : Nat} (hn : i 12 = nI n) (hn12 : n ≤ 12) {p c : Nat} (hp : p < 8) (hc : c ≤ n) {wh bs : Nat → Int32} {x1 x2 : Int32} {Q : mi_O → va_W → Nat → Nat → Prop} (z4 z5 z6 : Option Value) (hQ : ∀ z4 z5 z6 : Option Value, MW (En l D t b L xs) MX6_solveExactly (d + 3) 66 [some (.ref (q 18)), some (.int x1), some (.int x2), some (.int (nI p)), z4, z5, z6] [] (hx t q i a w (upd wh p (cd n (c + 1))) bs) mc ms Q) : MW (En l D t b L xs) MX6_solveExactly (d + 3) 91 [some (.ref (q 18)), some (.int x1), some (.int x2), some (.int (nI (p + 1) - 1)), z4, z5, z6] [] (hx t q i a w (upd wh p (cd n c)) bs) mc ms Q := by
  rw [nI_pred]
  refine MW.iload_n dX6_solveExactly_91 rfl ?_
  refine MW.if_lt 66 dX6_solveExactly_92 (by decide) (fun hc92 => absurd hc92 (nI_pos (by omega))) (fun hc92 => ?_)
  refine MW.aload_n dX6_solveExactly_95 rfl ?_
  refine MW.getf fX6_solveExactly_96 18 rfl rfl ?_
  refine MW.iload_n dX6_solveExactly_99 rfl ?_
  refine MW.aload_n dX6_solveExactly_100 rfl ?_
  refine MW.aload_n dX6_solveExactly_101 rfl ?_
  refine MW.getf fX6_solveExactly_102 18 rfl rfl ?_
  refine MW.iload_n dX6_solveExactly_105 rfl ?_
  refine MW.iaj dX6_solveExactly_106 26 0 rfl rfl hp (by decide) ?_
  refine MW.top (v' := .int (cd n c)) (by show Value.int (upd wh p (cd n c) p) = _; rw [pk_us]) ?_
  refine MW.callV1 fX6_solveExactly_107 18 rfl (m_nextPlace hn hn12 hc) rfl rfl rfl rfl (Nat.le_of_ble_eq_true rfl) ?_
  refine MW.isj dX6_solveExactly_110 26 0 rfl rfl hp (by decide) ?_
  refine MW.heap hw_a26 ?_
  refine MW.heap (h' := hx t q i a w (upd wh p (cd n (c + 1))) bs) (by show hx t q i a w (upd (upd wh p (cd n c)) p (cd n (c + 1))) bs = _; rw [upd_upd]) ?_
  refine MW.goto 66 dX6_solveExactly_111 (by decide) ?_
  exact hQ _ _ _
set_option maxHeartbeats 2000000 in
theorem lx_221 {k : Nat} (hk : i 17 = nI k) (hk8 : k ≤ 8) {wh bs : Nat → Int32} {x1 x2 x3 x5 : Int32} (z4 : Option Value) {Q : mi_O → va_W → Nat → Nat → Prop} : ∀ (r j : Nat), j + r = k → (MW (En l D t b L xs) MX6_solveExactly (d + 3) 250 [some (.ref (q 18)), some (.int x1), some (.int x2), some (.int x3), z4, some (.int x5), some (.int (nI k))] [] (hx t q i a w wh (cpk wh bs k)) mc ms Q) → MW (En l D t b L xs) MX6_solveExactly (d + 3) 221 [some (.ref (q 18)), some (.int x1), some (.int x2), some (.int x3), z4, some (.int x5), some (.int (nI j))] [] (hx t q i a w wh (cpk wh bs j)) mc ms Q := by
  intro r
  induction r with
  | zero =>
    intro j hr hQ
    obtain rfl : j = k := by omega
    refine MW.iload dX6_solveExactly_221 rfl ?_
    refine MW.aload_n dX6_solveExactly_223 rfl ?_
    refine MW.getf fX6_solveExactly_224 18 rfl rfl ?_
    refine MW.icmp_ge 250 dX6_solveExactly_227 (by decide) (fun hc227 => ?_) (fun hc227 => absurd (show i 17 ≤ nI j by rw [hk]; exact nI_le (by omega) (by omega)) hc227)
    exact hQ
  | succ r ih =>
    intro j hr hQ
    have hj : j < 8 := by omega
    refine MW.iload dX6_solveExactly_221 rfl ?_
    refine MW.aload_n dX6_solveExactly_223 rfl ?_
    refine MW.getf fX6_solveExactly_224 18 rfl rfl ?_
    refine MW.icmp_ge 250 dX6_solveExactly_227 (by decide) (fun hc227 => absurd hc227 (show ¬ i 17 ≤ nI j by rw [hk]; exact nI_ge (by omega) (by omega))) (fun hc227 => ?_)
    refine MW.aload_n dX6_solveExactly_230 rfl ?_
    refine MW.getf fX6_solveExactly_231 18 rfl rfl ?_
    refine MW.iload dX6_solveExactly_234 rfl ?_
    refine MW.aload_n dX6_solveExactly_236 rfl ?_
    refine MW.getf fX6_solveExactly_237 18 rfl rfl ?_
    refine MW.iload dX6_solveExactly_240 rfl ?_
    refine MW.iaj dX6_solveExactly_242 26 0 rfl rfl hj (by decide) ?_
    refine MW.isj dX6_solveExactly_243 27 0 rfl rfl hj (by decide) ?_
    refine MW.heap hw_a27 ?_
    refine MW.heap (h' := hx t q i a w wh (cpk wh bs (j + 1))) (by show hx t q i a w wh (upd (cpk wh bs j) j (wh j)) = _; rw [cpk_s]) ?_
    refine MW.iincj dX6_solveExactly_244 rfl rfl rfl ?_
    refine MW.goto 221 dX6_solveExactly_247 (by decide) ?_
    exact ih (j + 1) (by omega) hQ
set_option maxHeartbeats 2000000 in
theorem lx_A0 {k : Nat} (hk : i 17 = nI k) (hk8 : k ≤ 8) {n : Nat} (hn : i 12 = nI n) (hn12 : n ≤ 12) {Q : mi_O → va_W → Nat → Nat → Prop} : ∀ (p c : Nat) (wh : Nat → Int32) (sb : SB) (z4 z5 z6 : Option Value), p + (0 + 1) = k → c ≤ n → (∀ m, p < m → m < k → wh m = -1) → (∀ z4 z5 z6 : Option Value, MW (En l D t b L xs) MX6_solveExactly (d + 3) 66 [some (.ref (q 18)), some (.int (mxS i a n k 0 (upd wh p (cd n c)) sb).1), some (.int (mxS i a n k 0 (upd wh p (cd n c)) sb).2.1), some (.int (nI p)), z4, z5, z6] [] (hx t q i a w (upd wh p (cd n (c + 1))) (mxS i a n k 0 (upd wh p (cd n c)) sb).2.2) mc ms Q) → MW (En l D t b L xs) MX6_solveExactly (d + 3) 141 [some (.ref (q 18)), some (.int sb.1), some (.int sb.2.1), some (.int (nI p)), z4, z5, z6] [] (hx t q i a w (upd wh p (cd n c)) sb.2.2) mc ms Q := by
  intro p c wh sb z4 z5 z6 hr hc hinv hQ
  have hp : p < 8 := by omega
  refine MW.iload_n dX6_solveExactly_141 rfl ?_
  refine MW.iconst (v := 1) dX6_solveExactly_142 (by decide) ?_
  refine MW.iadd dX6_solveExactly_143 ?_
  refine MW.top (v' := .int (nI (p + 1))) (by rw [nI_1]) ?_
  refine MW.aload_n dX6_solveExactly_144 rfl ?_
  refine MW.getf fX6_solveExactly_145 18 rfl rfl ?_
  refine MW.icmp_ge 175 dX6_solveExactly_148 (by decide) (fun hc148 => ?_) (fun hc148 => absurd (show i 17 ≤ nI (p + 1) by rw [hk]; exact nI_le (by omega) (by omega)) hc148)
  refine MW.aload_n dX6_solveExactly_175 rfl ?_
  refine MW.callV1 fX6_solveExactly_176 18 rfl (m_standing (a := au (au a 17 (upd wh p (cd n c))) 18 sb.2.2) hk hk8) rfl rfl rfl rfl (Nat.le_of_ble_eq_true rfl) ?_
  refine MW.top (v' := .int (stn (upd wh p (cd n c)) k)) rfl ?_
  refine MW.istore dX6_solveExactly_179 rfl rfl ?_
  refine MW.aload_n dX6_solveExactly_181 rfl ?_
  refine MW.callV1 fX6_solveExactly_182 18 rfl (m_standingWeight (a := au (au a 17 (upd wh p (cd n c))) 18 sb.2.2) hk hk8) rfl rfl rfl rfl (Nat.le_of_ble_eq_true rfl) ?_
  refine MW.top (v' := .int (wtn (a 12) (upd wh p (cd n c)) k)) rfl ?_
  refine MW.istore dX6_solveExactly_185 rfl rfl ?_
  refine MW.iload dX6_solveExactly_187 rfl ?_
  refine MW.iload_n dX6_solveExactly_189 rfl ?_
  refine MW.icmp_gt 205 dX6_solveExactly_190 (by decide) (fun hc190 => ?_) (fun hc190 => ?_)
  · skip
    refine MW.aload_n dX6_solveExactly_205 rfl ?_
    refine MW.callV1 fX6_solveExactly_206 18 rfl (m_axlesBear (a := au (au a 17 (upd wh p (cd n c))) 18 sb.2.2) hk hk8) rfl rfl rfl rfl (Nat.le_of_ble_eq_true rfl) ?_
    refine MW.top (v' := .int (bI (brM i (a 12) (upd wh p (cd n c)) k))) rfl ?_
    refine MW.if_eq 250 dX6_solveExactly_209 (by decide) (fun hc209 => ?_) (fun hc209 => ?_)
    · skip
      have e9 : mxS i a n k 0 (upd wh p (cd n c)) sb = sb := cS_f (fun z => by first | exact zz hc209 z.2 | exact z.1.elim hc190 (fun y => by first | exact hc196 y.1 | exact absurd y.2 (Int32.not_lt.mpr hc202)))
      rw [e9] at hQ
      exact lx_250 hk hk8 hn hn12 hp hc _ _ _ hQ
    · skip
      refine MW.iload dX6_solveExactly_212 rfl ?_
      refine MW.istore_n dX6_solveExactly_214 rfl rfl ?_
      refine MW.iload dX6_solveExactly_215 rfl ?_
      refine MW.istore_n dX6_solveExactly_217 rfl rfl ?_
      refine MW.iconst (v := 0) dX6_solveExactly_218 (by decide) ?_
      refine MW.istore dX6_solveExactly_219 rfl rfl ?_
      have e9 : mxS i a n k 0 (upd wh p (cd n c)) sb = (stn (upd wh p (cd n c)) k, wtn (a 12) (upd wh p (cd n c)) k, cpk (upd wh p (cd n c)) sb.2.2 k) := cS_t ⟨by first | exact Or.inl hc190 | exact Or.inr ⟨hc196, Int32.not_le.mp hc202⟩, nz hc209⟩
      rw [e9] at hQ
      refine MW.heap (h' := hx t q i a w (upd wh p (cd n c)) (cpk (upd wh p (cd n c)) sb.2.2 0)) (by rw [cpk_0]) ?_
      exact lx_221 hk hk8 _ k 0 (by omega) (lx_250 hk hk8 hn hn12 hp hc _ _ _ hQ)
  · skip
    refine MW.iload dX6_solveExactly_193 rfl ?_
    refine MW.iload_n dX6_solveExactly_195 rfl ?_
    refine MW.icmp_ne 250 dX6_solveExactly_196 (by decide) (fun hc196 => ?_) (fun hc196 => ?_)
    · skip
      have e9 : mxS i a n k 0 (upd wh p (cd n c)) sb = sb := cS_f (fun z => by first | exact zz hc209 z.2 | exact z.1.elim hc190 (fun y => by first | exact hc196 y.1 | exact absurd y.2 (Int32.not_lt.mpr hc202)))
      rw [e9] at hQ
      exact lx_250 hk hk8 hn hn12 hp hc _ _ _ hQ
    · skip
      refine MW.iload dX6_solveExactly_199 rfl ?_
      refine MW.iload_n dX6_solveExactly_201 rfl ?_
      refine MW.icmp_le 250 dX6_solveExactly_202 (by decide) (fun hc202 => ?_) (fun hc202 => ?_)
      · skip
        have e9 : mxS i a n k 0 (upd wh p (cd n c)) sb = sb := cS_f (fun z => by first | exact zz hc209 z.2 | exact z.1.elim hc190 (fun y => by first | exact hc196 y.1 | exact absurd y.2 (Int32.not_lt.mpr hc202)))
        rw [e9] at hQ
        exact lx_250 hk hk8 hn hn12 hp hc _ _ _ hQ
      · skip
        refine MW.aload_n dX6_solveExactly_205 rfl ?_
        refine MW.callV1 fX6_solveExactly_206 18 rfl (m_axlesBear (a := au (au a 17 (upd wh p (cd n c))) 18 sb.2.2) hk hk8) rfl rfl rfl rfl (Nat.le_of_ble_eq_true rfl) ?_
        refine MW.top (v' := .int (bI (brM i (a 12) (upd wh p (cd n c)) k))) rfl ?_
        refine MW.if_eq 250 dX6_solveExactly_209 (by decide) (fun hc209 => ?_) (fun hc209 => ?_)
        · skip
          have e9 : mxS i a n k 0 (upd wh p (cd n c)) sb = sb := cS_f (fun z => by first | exact zz hc209 z.2 | exact z.1.elim hc190 (fun y => by first | exact hc196 y.1 | exact absurd y.2 (Int32.not_lt.mpr hc202)))
          rw [e9] at hQ
          exact lx_250 hk hk8 hn hn12 hp hc _ _ _ hQ
        · skip
          refine MW.iload dX6_solveExactly_212 rfl ?_
          refine MW.istore_n dX6_solveExactly_214 rfl rfl ?_
          refine MW.iload dX6_solveExactly_215 rfl ?_
          refine MW.istore_n dX6_solveExactly_217 rfl rfl ?_
          refine MW.iconst (v := 0) dX6_solveExactly_218 (by decide) ?_
          refine MW.istore dX6_solveExactly_219 rfl rfl ?_
          have e9 : mxS i a n k 0 (upd wh p (cd n c)) sb = (stn (upd wh p (cd n c)) k, wtn (a 12) (upd wh p (cd n c)) k, cpk (upd wh p (cd n c)) sb.2.2 k) := cS_t ⟨by first | exact Or.inl hc190 | exact Or.inr ⟨hc196, Int32.not_le.mp hc202⟩, nz hc209⟩
          rw [e9] at hQ
          refine MW.heap (h' := hx t q i a w (upd wh p (cd n c)) (cpk (upd wh p (cd n c)) sb.2.2 0)) (by rw [cpk_0]) ?_
          exact lx_221 hk hk8 _ k 0 (by omega) (lx_250 hk hk8 hn hn12 hp hc _ _ _ hQ)
set_option maxHeartbeats 2000000 in
theorem lx_cand {k : Nat} (hk : i 17 = nI k) (hk8 : k ≤ 8) {n : Nat} (hn : i 12 = nI n) (hn12 : n ≤ 12) {Q : mi_O → va_W → Nat → Nat → Prop} {r : Nat} (hA : ∀ (p c : Nat) (wh : Nat → Int32) (sb : SB) (z4 z5 z6 : Option Value), p + (r + 1) = k → c ≤ n → (∀ m, p < m → m < k → wh m = -1) → (∀ z4 z5 z6 : Option Value, MW (En l D t b L xs) MX6_solveExactly (d + 3) 66 [some (.ref (q 18)), some (.int (mxS i a n k r (upd wh p (cd n c)) sb).1), some (.int (mxS i a n k r (upd wh p (cd n c)) sb).2.1), some (.int (nI p)), z4, z5, z6] [] (hx t q i a w (upd wh p (cd n (c + 1))) (mxS i a n k r (upd wh p (cd n c)) sb).2.2) mc ms Q) → MW (En l D t b L xs) MX6_solveExactly (d + 3) 141 [some (.ref (q 18)), some (.int sb.1), some (.int sb.2.1), some (.int (nI p)), z4, z5, z6] [] (hx t q i a w (upd wh p (cd n c)) sb.2.2) mc ms Q) {p : Nat} (hpr : p + (r + 1) = k) {wh : Nat → Int32} (hinv : ∀ m, p ≤ m → m < k → wh m = -1) : ∀ (r2 c : Nat) (sb : SB) (z4 z5 z6 : Option Value), c + r2 = n → (∀ z4 z5 z6 : Option Value, MW (En l D t b L xs) MX6_solveExactly (d + 3) 91 [some (.ref (q 18)), some (.int (mxS i a n k r wh (lp (fun c s => cS (ftP (au a 17 (upd wh p (nI c))) k p c) (mxS i a n k r (upd wh p (nI c)) s) s) r2 c sb)).1), some (.int (mxS i a n k r wh (lp (fun c s => cS (ftP (au a 17 (upd wh p (nI c))) k p c) (mxS i a n k r (upd wh p (nI c)) s) s) r2 c sb)).2.1), some (.int (nI p - 1)), z4, z5, z6] [] (hx t q i a w wh (mxS i a n k r wh (lp (fun c s => cS (ftP (au a 17 (upd wh p (nI c))) k p c) (mxS i a n k r (upd wh p (nI c)) s) s) r2 c sb)).2.2) mc ms Q) → MW (En l D t b L xs) MX6_solveExactly (d + 3) 66 [some (.ref (q 18)), some (.int sb.1), some (.int sb.2.1), some (.int (nI p)), z4, z5, z6] [] (hx t q i a w (upd wh p (cd n c)) sb.2.2) mc ms Q := by
  have hp : p < 8 := by omega
  have hwp : wh p = -1 := hinv p (Nat.le_refl _) (by omega)
  intro r2
  induction r2 with
  | zero =>
    intro c sb z4 z5 z6 hc hQ
    obtain rfl : c = n := by omega
    have ew : upd wh p (cd c c) = wh := by rw [cd_n, ← hwp, upd_self]
    refine MW.iload_n dX6_solveExactly_66 rfl ?_
    refine MW.if_lt 269 dX6_solveExactly_67 (by decide) (fun hc67 => absurd hc67 (nI_pos (by omega))) (fun hc67 => ?_)
    refine MW.aload_n dX6_solveExactly_70 rfl ?_
    refine MW.getf fX6_solveExactly_71 18 rfl rfl ?_
    refine MW.iload_n dX6_solveExactly_74 rfl ?_
    refine MW.iaj dX6_solveExactly_75 26 0 rfl rfl hp (by decide) ?_
    refine MW.top (v' := .int (cd c c)) (by show Value.int (upd wh p (cd c c) p) = _; rw [pk_us]) ?_
    refine MW.bipush (v := 100) dX6_solveExactly_76 (by decide) ?_
    refine MW.icmp_ne 114 dX6_solveExactly_78 (by decide) (fun hc78 => ?_) (fun hc78 => absurd hc78 (show ¬ cd c c = 100 by rw [cd_n]; decide))
    refine MW.aload_n dX6_solveExactly_114 rfl ?_
    refine MW.iload_n dX6_solveExactly_115 rfl ?_
    refine MW.callV1 fX6_solveExactly_116 18 rfl (m_fits1 (a := au (au a 17 (upd wh p (cd c c))) 18 sb.2.2) hp (by show upd wh p (cd c c) p = _; rw [pk_us, cd_n])) rfl rfl rfl rfl (Nat.le_of_ble_eq_true rfl) ?_
    refine MW.if_ne 141 dX6_solveExactly_119 (by decide) (fun hc119 => ?_) (fun hc119 => absurd hc119 (by decide))
    refine hA p c wh sb _ _ _ hpr (Nat.le_refl _) (fun m h1 h2 => hinv m (by omega) h2) (fun z4 z5 z6 => ?_)
    rw [ew, cd_e]
    refine MW.iload_n dX6_solveExactly_66 rfl ?_
    refine MW.if_lt 269 dX6_solveExactly_67 (by decide) (fun hc67 => absurd hc67 (nI_pos (by omega))) (fun hc67 => ?_)
    refine MW.aload_n dX6_solveExactly_70 rfl ?_
    refine MW.getf fX6_solveExactly_71 18 rfl rfl ?_
    refine MW.iload_n dX6_solveExactly_74 rfl ?_
    refine MW.iaj dX6_solveExactly_75 26 0 rfl rfl hp (by decide) ?_
    refine MW.top (v' := .int 100) (by show Value.int (upd wh p 100 p) = _; rw [pk_us]) ?_
    refine MW.bipush (v := 100) dX6_solveExactly_76 (by decide) ?_
    refine MW.icmp_ne 114 dX6_solveExactly_78 (by decide) (fun hc78 => absurd rfl hc78) (fun hc78 => ?_)
    refine MW.aload_n dX6_solveExactly_81 rfl ?_
    refine MW.getf fX6_solveExactly_82 18 rfl rfl ?_
    refine MW.iload_n dX6_solveExactly_85 rfl ?_
    refine MW.iconst (v := -1) dX6_solveExactly_86 (by decide) ?_
    refine MW.isj dX6_solveExactly_87 26 0 rfl rfl hp (by decide) ?_
    refine MW.heap hw_a26 ?_
    refine MW.heap (h' := hx t q i a w wh (mxS i a c k r wh sb).2.2) (by show hx t q i a w (upd (upd wh p 100) p (-1)) _ = _; rw [upd_upd, ← hwp, upd_self]; rfl) ?_
    refine MW.iincs dX6_solveExactly_88 rfl rfl rfl ?_
    exact hQ _ _ _
  | succ r2 ih =>
    intro c sb z4 z5 z6 hc hQ
    have hcn : c < n := by omega
    have ec : cd n c = nI c := cd_lt hcn
    refine MW.iload_n dX6_solveExactly_66 rfl ?_
    refine MW.if_lt 269 dX6_solveExactly_67 (by decide) (fun hc67 => absurd hc67 (nI_pos (by omega))) (fun hc67 => ?_)
    refine MW.aload_n dX6_solveExactly_70 rfl ?_
    refine MW.getf fX6_solveExactly_71 18 rfl rfl ?_
    refine MW.iload_n dX6_solveExactly_74 rfl ?_
    refine MW.iaj dX6_solveExactly_75 26 0 rfl rfl hp (by decide) ?_
    refine MW.top (v' := .int (cd n c)) (by show Value.int (upd wh p (cd n c) p) = _; rw [pk_us]) ?_
    refine MW.bipush (v := 100) dX6_solveExactly_76 (by decide) ?_
    refine MW.icmp_ne 114 dX6_solveExactly_78 (by decide) (fun hc78 => ?_) (fun hc78 => absurd hc78 (show ¬ cd n c = 100 by rw [ec]; exact fun z => absurd ((nI_eq (b := 100) (by omega) (by omega)).mp z) (by omega)))
    refine MW.aload_n dX6_solveExactly_114 rfl ?_
    refine MW.iload_n dX6_solveExactly_115 rfl ?_
    refine MW.callV1 fX6_solveExactly_116 18 rfl (m_fits (a := au (au a 17 (upd wh p (cd n c))) 18 sb.2.2) (m := c) hk hk8 hp (by omega) (by omega) (by show upd wh p (cd n c) p = _; rw [pk_us, ec]) (fun m h1 h2 => by show upd wh p (cd n c) m = -1; rw [pk_un (by omega)]; exact hinv m (by omega) h2)) rfl rfl rfl rfl (Nat.le_of_ble_eq_true rfl) ?_
    refine MW.top (v' := .int (bI (ftP (au a 17 (upd wh p (nI c))) k p c))) (by rw [ec]; rfl) ?_
    refine MW.if_ne 141 dX6_solveExactly_119 (by decide) (fun hc119 => ?_) (fun hc119 => ?_)
    · skip
      refine hA p c wh sb _ _ _ hpr (by omega) (fun m h1 h2 => hinv m (by omega) h2) (fun z4 z5 z6 => ?_)
      rw [ec]
      exact ih (c + 1) _ _ _ _ (by omega) (by rw [show lp (fun c s => cS (ftP (au a 17 (upd wh p (nI c))) k p c) (mxS i a n k r (upd wh p (nI c)) s) s) (r2 + 1) c sb = lp (fun c s => cS (ftP (au a 17 (upd wh p (nI c))) k p c) (mxS i a n k r (upd wh p (nI c)) s) s) r2 (c + 1) (mxS i a n k r (upd wh p (nI c)) sb) from by show lp (fun c s => cS (ftP (au a 17 (upd wh p (nI c))) k p c) (mxS i a n k r (upd wh p (nI c)) s) s) r2 (c + 1) (cS _ _ sb) = _; rw [cS_t (nz hc119)]] at hQ; exact hQ)
    · skip
      refine MW.aload_n dX6_solveExactly_122 rfl ?_
      refine MW.getf fX6_solveExactly_123 18 rfl rfl ?_
      refine MW.iload_n dX6_solveExactly_126 rfl ?_
      refine MW.aload_n dX6_solveExactly_127 rfl ?_
      refine MW.aload_n dX6_solveExactly_128 rfl ?_
      refine MW.getf fX6_solveExactly_129 18 rfl rfl ?_
      refine MW.iload_n dX6_solveExactly_132 rfl ?_
      refine MW.iaj dX6_solveExactly_133 26 0 rfl rfl hp (by decide) ?_
      refine MW.top (v' := .int (cd n c)) (by show Value.int (upd wh p (cd n c) p) = _; rw [pk_us]) ?_
      refine MW.callV1 fX6_solveExactly_134 18 rfl (m_nextPlace hn hn12 (show c ≤ n by omega)) rfl rfl rfl rfl (Nat.le_of_ble_eq_true rfl) ?_
      refine MW.isj dX6_solveExactly_137 26 0 rfl rfl hp (by decide) ?_
      refine MW.heap hw_a26 ?_
      refine MW.heap (h' := hx t q i a w (upd wh p (cd n (c + 1))) sb.2.2) (by show hx t q i a w (upd (upd wh p (cd n c)) p (cd n (c + 1))) _ = _; rw [upd_upd]; rfl) ?_
      refine MW.goto 66 dX6_solveExactly_138 (by decide) ?_
      exact ih (c + 1) sb _ _ _ (by omega) (by rw [show lp (fun c s => cS (ftP (au a 17 (upd wh p (nI c))) k p c) (mxS i a n k r (upd wh p (nI c)) s) s) (r2 + 1) c sb = lp (fun c s => cS (ftP (au a 17 (upd wh p (nI c))) k p c) (mxS i a n k r (upd wh p (nI c)) s) s) r2 (c + 1) sb from by show lp (fun c s => cS (ftP (au a 17 (upd wh p (nI c))) k p c) (mxS i a n k r (upd wh p (nI c)) s) s) r2 (c + 1) (cS _ _ sb) = _; rw [cS_f (zz hc119)]] at hQ; exact hQ)
set_option maxHeartbeats 2000000 in
theorem lx_A {k : Nat} (hk : i 17 = nI k) (hk8 : k ≤ 8) {n : Nat} (hn : i 12 = nI n) (hn12 : n ≤ 12) {Q : mi_O → va_W → Nat → Nat → Prop} : ∀ r : Nat, ∀ (p c : Nat) (wh : Nat → Int32) (sb : SB) (z4 z5 z6 : Option Value), p + (r + 1) = k → c ≤ n → (∀ m, p < m → m < k → wh m = -1) → (∀ z4 z5 z6 : Option Value, MW (En l D t b L xs) MX6_solveExactly (d + 3) 66 [some (.ref (q 18)), some (.int (mxS i a n k r (upd wh p (cd n c)) sb).1), some (.int (mxS i a n k r (upd wh p (cd n c)) sb).2.1), some (.int (nI p)), z4, z5, z6] [] (hx t q i a w (upd wh p (cd n (c + 1))) (mxS i a n k r (upd wh p (cd n c)) sb).2.2) mc ms Q) → MW (En l D t b L xs) MX6_solveExactly (d + 3) 141 [some (.ref (q 18)), some (.int sb.1), some (.int sb.2.1), some (.int (nI p)), z4, z5, z6] [] (hx t q i a w (upd wh p (cd n c)) sb.2.2) mc ms Q := by
  intro r
  induction r with
  | zero => exact lx_A0 hk hk8 hn hn12
  | succ r ih =>
    intro p c wh sb z4 z5 z6 hr hc hinv hQ
    have hp : p + 1 < 8 := by omega
    have ek : k - (r + 1) = p + 1 := by omega
    have hfirst : ∀ z4 z5 z6 : Option Value, MW (En l D t b L xs) MX6_solveExactly (d + 3) 66 [some (.ref (q 18)), some (.int sb.1), some (.int sb.2.1), some (.int (nI (p + 1))), z4, z5, z6] [] (hx t q i a w (upd (upd wh p (cd n c)) (p + 1) (cd n 0)) sb.2.2) mc ms Q := fun z4 z5 z6 => lx_cand hk hk8 hn hn12 ih (p := p + 1) (by omega) (wh := (upd wh p (cd n c))) (fun m h1 h2 => by rw [pk_un (by omega)]; exact hinv m (by omega) h2) n 0 sb z4 z5 z6 (by omega) (fun z4 z5 z6 => lx_91 hk hk8 hn hn12 (by omega) hc z4 z5 z6 (fun z4 z5 z6 => by have h9 := hQ z4 z5 z6; rw [show mxS i a n k (r + 1) (upd wh p (cd n c)) sb = mxS i a n k r (upd wh p (cd n c)) (lp (fun c_1 s => cS (ftP (au a 17 (upd (upd wh p (cd n c)) (p + 1) (nI c_1))) k (p + 1) c_1) (mxS i a n k r (upd (upd wh p (cd n c)) (p + 1) (nI c_1)) s) s) n 0 sb) from by show mxS i a n k r (upd wh p (cd n c)) (lp (fun c9 s => cS (ftP (au a 17 (upd (upd wh p (cd n c)) (k - (r + 1)) (nI c9))) k (k - (r + 1)) c9) (mxS i a n k r (upd (upd wh p (cd n c)) (k - (r + 1)) (nI c9)) s) s) n 0 sb) = _; rw [ek]] at h9; exact h9))
    refine MW.iload_n dX6_solveExactly_141 rfl ?_
    refine MW.iconst (v := 1) dX6_solveExactly_142 (by decide) ?_
    refine MW.iadd dX6_solveExactly_143 ?_
    refine MW.top (v' := .int (nI (p + 1))) (by rw [nI_1]) ?_
    refine MW.aload_n dX6_solveExactly_144 rfl ?_
    refine MW.getf fX6_solveExactly_145 18 rfl rfl ?_
    refine MW.icmp_ge 175 dX6_solveExactly_148 (by decide) (fun hc148 => absurd hc148 (show ¬ i 17 ≤ nI (p + 1) by rw [hk]; exact nI_ge (by omega) (by omega))) (fun hc148 => ?_)
    refine MW.iincj dX6_solveExactly_151 rfl rfl rfl ?_
    refine MW.aload_n dX6_solveExactly_154 rfl ?_
    refine MW.getf fX6_solveExactly_155 18 rfl rfl ?_
    refine MW.iload_n dX6_solveExactly_158 rfl ?_
    refine MW.aload_n dX6_solveExactly_159 rfl ?_
    refine MW.getf fX6_solveExactly_160 18 rfl rfl ?_
    refine MW.if_le 170 dX6_solveExactly_163 (by decide) (fun hc163 => ?_) (fun hc163 => ?_)
    · skip
      have e0 : cd n 0 = -1 := by
        rw [hn] at hc163
        have h0 : n = 0 := by
          rcases Nat.eq_zero_or_pos n with z | z
          · exact z
          · exact absurd hc163 (show ¬ nI n ≤ 0 from Int32.not_le.mpr (nI_lt (a := 0) z (by omega)))
        rw [h0]; rfl
      refine MW.iconst (v := -1) dX6_solveExactly_170 (by decide) ?_
      refine MW.isj dX6_solveExactly_171 26 0 rfl rfl hp (by decide) ?_
      refine MW.heap hw_a26 ?_
      refine MW.goto 66 dX6_solveExactly_172 (by decide) ?_
      refine MW.heap (h' := hx t q i a w (upd (upd wh p (cd n c)) (p + 1) (cd n 0)) sb.2.2) (by rw [e0]; rfl) ?_
      exact hfirst _ _ _
    · skip
      have e0 : cd n 0 = 0 := by
        rw [hn] at hc163
        have h0 : 0 < n := by
          rcases Nat.eq_zero_or_pos n with z | z
          · rw [z] at hc163; exact absurd (show (nI 0 : Int32) ≤ 0 by decide) hc163
          · exact z
        rw [cd_lt h0]; rfl
      refine MW.iconst (v := 0) dX6_solveExactly_166 (by decide) ?_
      refine MW.goto 171 dX6_solveExactly_167 (by decide) ?_
      refine MW.isj dX6_solveExactly_171 26 0 rfl rfl hp (by decide) ?_
      refine MW.heap hw_a26 ?_
      refine MW.goto 66 dX6_solveExactly_172 (by decide) ?_
      refine MW.heap (h' := hx t q i a w (upd (upd wh p (cd n c)) (p + 1) (cd n 0)) sb.2.2) (by rw [e0]; rfl) ?_
      exact hfirst _ _ _
end Model3
