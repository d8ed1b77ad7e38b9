theorem axn_e {G : Int32 → Int32 → Int32} {wt wh : Nat → Int32} : ∀ {k : Nat}, (∀ m, m < k → wh m = -1) → axn G wt wh k = 0
  | 0, _ => rfl
  | k + 1, h => by
    show (if wh k = -1 then axn G wt wh k else _) = 0
    rw [if_pos (h k (by omega))]
    exact axn_e (fun m hm => h m (by omega))
theorem br_e {ii : Nat → Int32} {f s : Nat} {wt wh : Nat → Int32} {k : Nat} (hA : Ax ii ii f s) (hL : Lm ii) (h : ∀ m, m < k → wh m = -1) : brM ii wt wh k := by
  obtain ⟨g4, g5, g1, g2, g13, g14, g15, g16⟩ := hA
  obtain ⟨x, y, hx, hy, e6, e7⟩ := hL
  have hsp : ii 14 - ii 13 = nI (s - f) := by rw [g13, g14, g5, g4, pk_sub (by omega)]
  have b1 : x * (s - f) ≤ 10000 * 100 := Nat.mul_le_mul hx (by omega)
  have b2 : y * (s - f) ≤ 10000 * 100 := Nat.mul_le_mul hy (by omega)
  unfold brM
  rw [axn_e h, axn_e h, hsp, g15, g16, e6, e7, pk_mul, pk_mul]
  exact ⟨nI_pos' (by omega), nI_pos' (by omega)⟩
theorem pbs_o {a : Nat → Nat → Int32} {n k s j m : Nat} {st : Nat × (Nat → Int32)} (h : m ≠ j) : (pbs a n k s j st).2 m = st.2 m := by
  unfold pbs
  split
  · show pfw _ st.2 j m = st.2 m
    cases pfo (fun c => fb (au a 7 st.2) k j c = 0) (n - st.1) st.1 with
    | none => rfl
    | some c => exact pk_un h
  · rfl
theorem pbj_o {a : Nat → Nat → Int32} {n k s m : Nat} : ∀ (r j : Nat) (st : Nat × (Nat → Int32)), j + r ≤ m → (pbj a n k s r j st).2 m = st.2 m
  | 0, _, _, _ => rfl
  | r + 1, j, st, h => by
    show (pbj a n k s r (j + 1) (pbs a n k s j st)).2 m = st.2 m
    rw [pbj_o r (j + 1) _ (by omega), pbs_o (by omega)]
theorem pbo_o {a : Nat → Nat → Int32} {n k m : Nat} (h : k ≤ m) : ∀ (s : Nat) (st : Nat × (Nat → Int32)), (pbo a n k s st).2 m = st.2 m
  | 0, _ => rfl
  | s + 1, st => by
    show (pbo a n k s (pbj a n k (s + 1) k 0 st)).2 m = st.2 m
    rw [pbo_o h s, pbj_o k 0 st (by omega)]
section OpsB
variable {l : Launch} {D : va_G} {t : ty4} {b L : Nat} {xs : Nat → Int32} {q : Nat → Nat} {i : Nat → Int32} {a : Nat → Nat → Int32} {w : Int64} {n k g mc ms : Nat}
set_option maxHeartbeats 1000000 in
theorem op_solve {x : Int32} (hR : Rel i a n k g) (hmc : mc + 1 ≤ mi_CC) (hms : ms + 6 ≤ mi_CS) : OpI l D t b L xs q i a w n mc ms ML_solve MX6_solve [.int x] := by
  obtain ⟨⟨hn12, hk8, hg10⟩, ⟨e2, e3, e10, e12, e17, e22⟩, ⟨e20, e21, e19, b0, b1⟩, ⟨f, s, hA⟩, hLm, hS, ⟨W, hW⟩, hV, h7, hout, hg⟩ := id hR
  by_cases h1 : 0 ≤ x ∧ x ≤ 5
  · by_cases h2 : ¬ i 0 = 0 ∨ ¬ i 11 = 0
    · exact OpI.thr (kk := 2) (by decide) hR (w_solve_2 (c_solve_x2 h1 h2 hmc hms)) (m_solve_2 h1 (by rw [e20, e21]; exact h2))
    · have h3 : i 0 = 0 := Classical.byContradiction (fun z => h2 (Or.inl z))
      have h4 : i 11 = 0 := Classical.byContradiction (fun z => h2 (Or.inr z))
      have ht : ∀ m, m < k → tko (a 7) k m = -1 := fun m hm => if_pos hm
      have hVt : Vl (tko (a 7) k) n k := ⟨fun m hm => Or.inl (ht m hm), fun m p hm hp h5 h6 => absurd (ht m hm) h6⟩
      by_cases h5 : nI k ≤ x
      · have hk5 : k ≤ 5 := (nI_leI (b := 5) (by omega) (by omega)).mp (Int32.le_trans h5 h1.2)
        have hc := c_solve_e (l := l) (D := D) (t := t) (b := b) (L := L) (xs := xs) (q := q) (w := w) (mc := mc) (ms := ms) (i := i) (a := a) e3 hk8 e2 hn12 h1 h3 h4 h5 hk5
        generalize hSE : tfS (upd i 1 1) a n k k (tko (a 7) k) (-1, -1, a 8) = SE at hc
        have hm := m_solve_e (l := l) (D := D) (t := t) (b := b) (L := L) (xs := xs) (q := q) (w := (stn (cpk SE.2.2 (tko (a 7) k) k) k).toInt64) (mc := mc) (ms := ms) (i := upd (upd (upd i 1 1) 8 SE.1) 9 SE.2.1) (a := au (au a 7 (cpk SE.2.2 (tko (a 7) k) k)) 8 SE.2.2) e17 hk8 e12 hn12 h1 (e20.trans h3) (e21.trans h4) h5
        have hsx := sx (i := upd i 1 1) (ii := upd (upd (upd (upd (upd i 1 1) 8 SE.1) 9 SE.2.1) 18 0) 19 1) (a := a) (aa := au (au a 7 (cpk SE.2.2 (tko (a 7) k) k)) 8 SE.2.2) (W := W) hA hk8 hn12 e2 hW hS k (Nat.le_refl _) (tko (a 7) k) (tko (a 17) k) (-1, -1, a 8) (-1, 0, tko (a 18) k) hVt (fun m _ hm => ht m hm) (fun m hm => by rw [ht m hm]; exact if_pos hm) ⟨rfl, Or.inl rfl⟩
        have hso := mx_some (ii := upd (upd (upd (upd (upd i 1 1) 8 SE.1) 9 SE.2.1) 18 0) 19 1) (aa := au (au a 7 (cpk SE.2.2 (tko (a 7) k) k)) 8 SE.2.2) (n := n) hk8 (wh := tko (a 17) k) (fun m hm => if_pos hm) (br_e (ii := upd (upd (upd (upd (upd i 1 1) 8 SE.1) 9 SE.2.1) 18 0) 19 1) hA hLm (fun m hm => if_pos hm)) k (-1, 0, tko (a 18) k)
        rw [hSE] at hsx
        have hmB : (mxS (upd (upd (upd (upd (upd i 1 1) 8 SE.1) 9 SE.2.1) 18 0) 19 1) (au (au a 7 (cpk SE.2.2 (tko (a 7) k) k)) 8 SE.2.2) n k k (tko (a 17) k) (-1, 0, tko (a 18) k)).2.2 = mxB (upd (upd (upd (upd (upd i 1 1) 8 SE.1) 9 SE.2.1) 18 0) 19 1) (au (au a 7 (cpk SE.2.2 (tko (a 7) k) k)) 8 SE.2.2) n k := rfl
        obtain ⟨u1, u2⟩ := hsx
        rw [← u1] at hso
        obtain ⟨u3, u4, u5⟩ := u2.resolve_left hso
        rw [hmB] at u4
        generalize mxB (upd (upd (upd (upd (upd i 1 1) 8 SE.1) 9 SE.2.1) 18 0) 19 1) (au (au a 7 (cpk SE.2.2 (tko (a 7) k) k)) 8 SE.2.2) n k = MB at hm u4
        have hWE : ∀ m, m < k → cpk SE.2.2 (tko (a 7) k) k m = SE.2.2 m := fun m hm => if_pos hm
        have hWM : ∀ m, m < k → cpk MB (tko (a 17) k) k m = cpk SE.2.2 (tko (a 7) k) k m := fun m hm => by
          rw [hWE m hm, show cpk MB (tko (a 17) k) k m = MB m from if_pos hm]
          exact u4 m hm
        have ev : stn (cpk MB (tko (a 17) k) k) k = stn (cpk SE.2.2 (tko (a 7) k) k) k := stn_c hWM
        have hm2 : MC (En l D t b L xs) MX6_solve 20 [.ref (q 18), .int x] (hw t q (upd (upd (upd i 1 1) 8 SE.1) 9 SE.2.1) (au (au a 7 (cpk SE.2.2 (tko (a 7) k) k)) 8 SE.2.2) (stn (cpk SE.2.2 (tko (a 7) k) k) k).toInt64) mc ms (rt (some (.int (stn (cpk MB (tko (a 17) k) k) k))) (hw t q (upd (upd (upd (upd (upd i 1 1) 8 SE.1) 9 SE.2.1) 18 0) 19 1) (au (au (au (au a 7 (cpk SE.2.2 (tko (a 7) k) k)) 8 SE.2.2) 17 (cpk MB (tko (a 17) k) k)) 18 MB) (stn (cpk SE.2.2 (tko (a 7) k) k) k).toInt64) mc ms) := hm
        rw [ev] at hm2
        refine OpI.ret (k2 := k) (g2 := g) (w_solve_r hc) hm2 rfl ?_
        exact ⟨⟨hn12, hk8, hg10⟩, ⟨e2, e3, e10, e12, e17, e22⟩, ⟨e20, e21, rfl, b0, Or.inr rfl⟩, ⟨f, s, hA⟩, hLm, hS, ⟨W, hW⟩, Vl_c u5 hWE, hWM, fun m m1 m2 => by
          show cpk SE.2.2 (tko (a 7) k) k m = -1
          rw [show cpk SE.2.2 (tko (a 7) k) k m = tko (a 7) k m from if_neg (by omega), show tko (a 7) k m = a 7 m from if_neg (by omega)]
          exact hout m m1 m2, hg⟩
      · have hc := c_solve_r (l := l) (D := D) (t := t) (b := b) (L := L) (xs := xs) (q := q) (w := w) (mc := mc) (ms := ms) (i := i) (a := a) e3 hk8 e2 hn12 h1 h3 h4 h5
        have hri := pb_o (a := a) (aa := au a 7 (pbo a n k 9 (0, tko (a 7) k)).2) hS hn12 9 (0, tko (a 7) k) (0, tko (a 17) k) ⟨rfl, Nat.zero_le _, fun m hm => by show tko (a 17) k m = tko (a 7) k m; rw [ht m hm]; exact if_pos hm, hVt, fun m hm => Or.inl (ht m hm)⟩
        have ho : ∀ m, k ≤ m → (pbo a n k 9 (0, tko (a 7) k)).2 m = a 7 m := fun m hm => by
          rw [pbo_o hm 9]
          exact if_neg (by omega)
        generalize hWR : (pbo a n k 9 (0, tko (a 7) k)).2 = WR at hc hri ho
        have hm := m_solve_r (l := l) (D := D) (t := t) (b := b) (L := L) (xs := xs) (q := q) (w := (stn WR k).toInt64) (mc := mc) (ms := ms) (i := upd i 1 0) (a := au a 7 WR) e17 hk8 e12 hn12 h1 (e20.trans h3) (e21.trans h4) h5
        obtain ⟨-, -, u3, u4, -⟩ := hri
        rw [hWR] at u3 u4
        have u3' : ∀ m, m < k → (pmo (au a 7 WR) n k 9 (0, tko ((au a 7 WR) 17) k)).2 m = WR m := u3
        generalize (pmo (au a 7 WR) n k 9 (0, tko ((au a 7 WR) 17) k)).2 = MR at hm u3'
        have ev : stn MR k = stn WR k := stn_c u3'
        rw [ev] at hm
        refine OpI.ret (k2 := k) (g2 := g) (w_solve_r hc) hm rfl ?_
        exact ⟨⟨hn12, hk8, hg10⟩, ⟨e2, e3, e10, e12, e17, e22⟩, ⟨e20, e21, rfl, b0, Or.inl rfl⟩, ⟨f, s, hA⟩, hLm, hS, ⟨W, hW⟩, u4, u3', fun m m1 m2 => by
          show WR m = -1
          rw [ho m m1]
          exact hout m m1 m2, hg⟩
  · exact OpI.thr (kk := 1) (by decide) hR (w_solve_1 (c_solve_x1 h1 hmc hms)) (m_solve_1 h1)
end OpsB
/-- a call that the law makes straight: the answers are the same -/
def OpD (l : Launch) (D : va_G) (t : ty4) (b L : Nat) (xs : Nat → Int32) (q : Nat → Nat) (i : Nat → Int32) (a : Nat → Nat → Int32) (w : Int64) (n mc ms : Nat) (MX MM : mi_M) (As : List Value) : Prop := ∃ (v : Int32) (i2 : Nat → Int32) (a2 : Nat → Nat → Int32) (k2 g2 : Nat), MC (En l D t b L xs) MX 21 (.ref (q 0) :: As) (hw t q i a w) mc ms (rt (some (.int v)) (hw t q i a w) mc ms) ∧ MC (En l D t b L xs) MM 21 (.ref (q 18) :: As) (hw t q i a w) mc ms (rt (some (.int v)) (hw t q i2 a2 w) mc ms) ∧ Rel i2 a2 n k2 g2
section OpsC
variable {l : Launch} {D : va_G} {t : ty4} {b L : Nat} {xs : Nat → Int32} {q : Nat → Nat} {i : Nat → Int32} {a : Nat → Nat → Int32} {w : Int64} {n k g mc ms : Nat} {MX MM : mi_M} {As : List Value}
theorem OpD.ret {v v' : Int32} (hR : Rel i a n k g) (hc : MC (En l D t b L xs) MX 20 (.ref (q 0) :: As) (hw t q i a w) mc ms (rt (some (.int v)) (hw t q i a w) mc ms)) (hm : MC (En l D t b L xs) MM 20 (.ref (q 18) :: As) (hw t q i a w) mc ms (rt (some (.int v')) (hw t q (upd i 18 0) a w) mc ms)) (e : v' = v) : OpD l D t b L xs q i a w n mc ms MX MM As := by
  subst e
  exact ⟨_, upd i 18 0, a, k, g, MC.up (by omega) hc, MC.up (by omega) hm, Rel_18 hR⟩
theorem op_exact (hR : Rel i a n k g) : OpD l D t b L xs q i a w n mc ms MX5_exact MX6_exact [] := by
  obtain ⟨-, -, ⟨e20, e21, e19, b0, b1⟩, -⟩ := id hR
  exact OpD.ret hR (c_exact b1) (m_exact (by rw [e19]; exact b1)) e19
theorem op_bound (hR : Rel i a n k g) : OpD l D t b L xs q i a w n mc ms MX5_bound MX6_bound [] := by
  obtain ⟨⟨hn12, hk8, hg10⟩, ⟨e2, e3, e10, e12, e17, e22⟩, hb, hA, hLm, hS, hW, hV, h7, hout, hg⟩ := id hR
  exact OpD.ret hR (c_bound e3 hk8 e2 hn12) (MC.up (d := 1) (by omega) (m_bound (d := 0) e17 hk8 e12 hn12)) (by rw [bd_eq hS hn12, e12, e2, mn_comm])
theorem op_count {x : Int32} (hR : Rel i a n k g) : OpD l D t b L xs q i a w n mc ms MX5_count MX6_count [.int x] := by
  obtain ⟨⟨hn12, hk8, hg10⟩, ⟨e2, e3, e10, e12, e17, e22⟩, ⟨e20, e21, e19, b0, b1⟩, hA, hLm, hS, hW, hV, h7, hout, hg⟩ := id hR
  by_cases h0 : x = 0
  · subst h0; exact OpD.ret hR (c_count_0 e3 hk8) (m_count_0 e17 hk8) (e12.trans e2.symm)
  by_cases h1 : x = 1
  · subst h1; exact OpD.ret hR (c_count_1 e3 hk8) (m_count_1 e17 hk8) (e17.trans e3.symm)
  by_cases h2 : x = 2
  · subst h2; exact OpD.ret hR (c_count_2 e3 hk8) (m_count_2 e17 hk8) (stn_c h7)
  by_cases h3 : x = 3
  · subst h3; exact OpD.ret hR (c_count_3 e3 hk8) (m_count_3 e17 hk8) (by rw [e20])
  by_cases h4 : x = 4
  · subst h4; exact OpD.ret hR (c_count_4 e3 hk8) (m_count_4 e17 hk8) e21
  by_cases h5 : x = 5
  · subst h5; exact OpD.ret hR (c_count_5 e3 hk8) (m_count_5 e17 hk8) (e22.trans e10.symm)
  have hx : x.toInt < 0 ∨ 5 < x.toInt := by
    apply Classical.byContradiction
    intro z
    have z1 : 0 ≤ x.toInt := by omega
    have z2 : x.toInt ≤ 5 := by omega
    have k0 : ¬ x.toInt = 0 := fun y => h0 (i32_eq (y.trans t0.symm))
    have k1 : ¬ x.toInt = 1 := fun y => h1 (i32_eq (y.trans t1.symm))
    have k2 : ¬ x.toInt = 2 := fun y => h2 (i32_eq (y.trans (show (2 : Int) = (2 : Int32).toInt by decide)))
    have k3 : ¬ x.toInt = 3 := fun y => h3 (i32_eq (y.trans (show (3 : Int) = (3 : Int32).toInt by decide)))
    have k4 : ¬ x.toInt = 4 := fun y => h4 (i32_eq (y.trans (show (4 : Int) = (4 : Int32).toInt by decide)))
    have k5 : ¬ x.toInt = 5 := fun y => h5 (i32_eq (y.trans (show (5 : Int) = (5 : Int32).toInt by decide)))
    omega
  exact OpD.ret hR (c_count_x hx) (m_count_x hx) rfl
end OpsC
