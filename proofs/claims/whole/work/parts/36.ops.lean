/-! Each call of the law: the class's and the reference's, with the same answer, and the relation kept. -/
theorem Vl_upd2 {wh : Nat → Int32} {n k p c : Nat} (hV : Vl wh n k) (hc : c < n) (hn : n ≤ 12) (h : ∀ m, m < k → m ≠ p → ¬ wh m = nI c) : Vl (upd wh p (nI c)) n k := by
  refine ⟨fun m hm => ?_, fun m m' hm hm' he h0 => ?_⟩
  · by_cases h1 : m = p
    · right; exact ⟨c, hc, by rw [h1, pk_us]⟩
    · rw [pk_un h1]; exact hV.1 m hm
  · by_cases h1 : m = p
    · by_cases h2 : m' = p
      · rw [h1, h2]
      · rw [h1, pk_us, pk_un h2] at he
        exact absurd he.symm (h m' hm' h2)
    · by_cases h2 : m' = p
      · rw [h2, pk_us, pk_un h1] at he
        exact absurd he (h m hm h1)
      · rw [pk_un h1, pk_un h2] at he
        rw [pk_un h1] at h0
        exact hV.2 m m' hm hm' he h0
theorem Vl_out {wh : Nat → Int32} {n k p : Nat} (hV : Vl wh n k) : Vl (upd wh p (-1)) n k := by
  refine ⟨fun m hm => ?_, fun m m' hm hm' he h0 => ?_⟩
  · by_cases h1 : m = p
    · left; rw [h1, pk_us]
    · rw [pk_un h1]; exact hV.1 m hm
  · have h1 : m ≠ p := fun z => h0 (by rw [z, pk_us])
    have h2 : m' ≠ p := fun z => h0 (by rw [he, z, pk_us])
    rw [pk_un h1, pk_un h2] at he
    rw [pk_un h1] at h0
    exact hV.2 m m' hm hm' he h0
theorem Vl_c {wh wh' : Nat → Int32} {n k : Nat} (hV : Vl wh n k) (h : ∀ m, m < k → wh' m = wh m) : Vl wh' n k := by
  refine ⟨fun m hm => by rw [h m hm]; exact hV.1 m hm, fun m p hm hp h1 h2 => ?_⟩
  rw [h m hm, h p hp] at h1
  rw [h m hm] at h2
  exact hV.2 m p hm hp h1 h2
theorem upd_c {f g : Nat → Int32} {k j : Nat} {x : Int32} (h : ∀ m, m < k → f m = g m) : ∀ m, m < k → upd f j x m = upd g j x m := by
  intro m hm
  by_cases h1 : m = j
  · rw [h1, pk_us, pk_us]
  · rw [pk_un h1, pk_un h1]; exact h m hm
theorem rng {x M : Int32} {N lo : Nat} (hM : M.toInt = (N : Int)) (hlo : lo < 2 ^ 31) (h : nI lo ≤ x ∧ x ≤ M) : ∃ j : Nat, lo ≤ j ∧ j ≤ N ∧ x = nI j := by
  obtain ⟨j, hj, rfl⟩ := nI_of2 hM (fun z => by
    have h1 := Int32.le_iff_toInt_le.mp h.1
    have h2 := Int32.lt_iff_toInt_lt.mp z
    rw [nI_toInt hlo] at h1
    rw [t0] at h2
    omega) h.2
  have hN : M.toInt < 2147483648 := Int32.toInt_lt M
  have hj2 : j < 2 ^ 31 := by omega
  exact ⟨j, (nI_leI hlo hj2).mp h.1, hj, rfl⟩
section OpsA
variable {l : Launch} {D : va_G} {t : ty4} {b L : Nat} {xs : Nat → Int32} {q : Nat → Nat} {i : Nat → Int32} {a : Nat → Nat → Int32} {w : Int64} {n k g mc ms : Nat}
theorem op_cell {x y z : Int32} (hz : z = 0 ∨ z = 1) (hR : Rel i a n k g) (hmc : mc + 1 ≤ mi_CC) (hms : ms + 6 ≤ mi_CS) : OpV l D t b L xs q i a w n mc ms ML_cell_ MX6_cell [.int x, .int y, .int z] := by
  obtain ⟨⟨hn12, hk8, hg10⟩, ⟨e2, e3, e10, e12, e17, e22⟩, hb, hA, hLm, hS, hW, hV, h7, hout, hg⟩ := id hR
  by_cases h1 : 0 ≤ x ∧ x < i 2
  · have h1' : 0 ≤ x ∧ x < nI n := by rw [← e2]; exact h1
    by_cases h2 : 1 ≤ y ∧ y ≤ 10
    · by_cases h3 : ∃ m, m < k ∧ a 7 m = x
      · exact OpV.thr (kk := 3) hR (w_cell__2 (c_cell_x2 e3 hk8 h1 h2 h3 hmc hms)) (m_cell_3 e17 hk8 e12 hn12 h1' h2 (by obtain ⟨m, m1, m2⟩ := h3; exact ⟨m, m1, by rw [h7 m m1]; exact m2⟩))
      · obtain ⟨m, hm, rfl⟩ := in_n (by omega) h1'
        refine OpV.ret (k2 := k) (g2 := g) (w_cell__r (c_cell_ok e3 hk8 e2 hn12 hm h2 h3 hz)) (m_cell_ok (a := au (au a 0 (upd (a 0) m y)) 1 (upd (a 1) m z)) e17 hk8 e12 hn12 hm h2 (fun ⟨p, p1, p2⟩ => h3 ⟨p, p1, by rw [← h7 p p1]; exact p2⟩) hz) rfl ?_
        exact ⟨⟨hn12, hk8, hg10⟩, ⟨e2, e3, e10, e12, e17, e22⟩, hb, hA, hLm, ⟨fun p hp => ⟨upd_c (fun p hp => (hS.1 p hp).1) p hp, upd_c (fun p hp => (hS.1 p hp).2) p hp⟩, hS.2⟩, hW, hV, h7, hout, hg⟩
    · exact OpV.thr (kk := 2) hR (w_cell__1 (c_cell_x1 h1 h2 hmc hms)) (m_cell_2 e12 hn12 h1' h2)
  · exact OpV.thr (kk := 1) hR (w_cell__5 (c_cell_x5 h1 hmc hms)) (m_cell_1 e12 hn12 (by rw [← e2]; exact h1))
theorem op_axles {x y z v : Int32} (hR : Rel i a n k g) (hmc : mc + 1 ≤ mi_CC) (hms : ms + 6 ≤ mi_CS) : OpV l D t b L xs q i a w n mc ms ML_axles MX6_axles [.int x, .int y, .int z, .int v] := by
  by_cases h1 : (0 ≤ x ∧ x ≤ 100) ∧ (0 ≤ y ∧ y ≤ 100) ∧ (0 ≤ z ∧ z ≤ 10000) ∧ (0 ≤ v ∧ v ≤ 10000) ∧ x < y
  · refine OpV.ret (k2 := k) (g2 := g) (w_axles_r (c_axles_ok h1)) (m_axles_ok h1) rfl ?_
    obtain ⟨hx, hy, hz, hv, hxy⟩ := h1
    obtain ⟨f', -, f1, rfl⟩ := rng (lo := 0) (M := 100) (N := 100) (by decide) (by decide) hx
    obtain ⟨s', -, s1, rfl⟩ := rng (lo := 0) (M := 100) (N := 100) (by decide) (by decide) hy
    obtain ⟨z', -, z1, rfl⟩ := rng (lo := 0) (M := 10000) (N := 10000) (by decide) (by decide) hz
    obtain ⟨v', -, v1, rfl⟩ := rng (lo := 0) (M := 10000) (N := 10000) (by decide) (by decide) hv
    have hlt : f' < s' := (nI_ltI (by omega) (by omega)).mp hxy
    obtain ⟨r1, r2, r3, -, -, r4⟩ := hR
    exact ⟨r1, r2, r3, ⟨f', s', rfl, rfl, hlt, s1, rfl, rfl, rfl, rfl⟩, ⟨z', v', z1, v1, rfl, rfl⟩, r4⟩
  · exact OpV.thr (kk := 1) hR (w_axles_1 (c_axles_x1 h1 hmc hms)) (m_axles_1 h1)
theorem op_pallet {x y z s v : Int32} (hy : y = 0 ∨ y = 1) (hz : z = 0 ∨ z = 1) (hR : Rel i a n k g) (hmc : mc + 1 ≤ mi_CC) (hms : ms + 6 ≤ mi_CS) : OpI l D t b L xs q i a w n mc ms ML_pallet MX6_pallet [.int x, .int y, .int z, .int s, .int v] := by
  obtain ⟨⟨hn12, hk8, hg10⟩, ⟨e2, e3, e10, e12, e17, e22⟩, hb, hA, hLm, hS, ⟨W, hW⟩, hV, h7, hout, hg⟩ := id hR
  have e20 : i 20 = i 0 := hb.1
  by_cases h1 : (1 ≤ x ∧ x ≤ 1000) ∧ (1 ≤ s ∧ s ≤ 9) ∧ (1 ≤ v ∧ v ≤ 10)
  · by_cases h2 : i 0 = 0
    · by_cases h3 : k < 8
      · refine OpI.ret (k2 := k + 1) (g2 := g) (w_pallet_r (c_pallet_ok e3 hk8 h3 hy hz h1 h2)) (m_pallet_ok (i := upd i 3 (nI (k + 1))) (a := au (au (au (au (au a 2 (upd (a 2) k x)) 3 (upd (a 3) k y)) 4 (upd (a 4) k z)) 5 (upd (a 5) k s)) 6 (upd (a 6) k v)) e17 hk8 h3 hy hz h1 (e20.trans h2)) rfl ?_
        obtain ⟨X, X1, X2, rfl⟩ := rng (lo := 1) (M := 1000) (N := 1000) (by decide) (by decide) h1.1
        have cc : ∀ (r r' : Nat → Int32) (u : Int32), (∀ m, m < k → r' m = r m) → ∀ m, m < k + 1 → upd r' k u m = upd r k u m := fun r r' u h m hm => by
          by_cases hmk : m = k
          · rw [hmk, pk_us, pk_us]
          · rw [pk_un hmk, pk_un hmk]; exact h m (by omega)
        have h7k : a 7 k = -1 := hout k (Nat.le_refl _) h3
        refine ⟨⟨hn12, by omega, hg10⟩, ⟨e2, rfl, e10, e12, rfl, e22⟩, hb, hA, hLm, ⟨hS.1, fun m hm => ⟨cc _ _ _ (fun m hm => (hS.2 m hm).1) m hm, cc _ _ _ (fun m hm => (hS.2 m hm).2.1) m hm, cc _ _ _ (fun m hm => (hS.2 m hm).2.2.1) m hm, cc _ _ _ (fun m hm => (hS.2 m hm).2.2.2.1) m hm, cc _ _ _ (fun m hm => (hS.2 m hm).2.2.2.2) m hm⟩⟩, ⟨fun m => if m = k then X else W m, fun m hm => ⟨?_, ?_, cc _ _ _ (fun m hm => (hS.2 m hm).1) m hm⟩⟩, ⟨fun m hm => ?_, fun m p hm hp he h0 => ?_⟩, fun m hm => ?_, fun m h1 h2 => hout m (by omega) h2, hg⟩
        · show upd (a 2) k (nI X) m = nI (if m = k then X else W m)
          by_cases hmk : m = k
          · rw [hmk, pk_us, if_pos rfl]
          · rw [pk_un hmk, if_neg hmk]; exact (hW m (by omega)).1
        · show (if m = k then X else W m) ≤ 1000
          by_cases hmk : m = k
          · rw [if_pos hmk]; exact X2
          · rw [if_neg hmk]; exact (hW m (by omega)).2.1
        · show a 7 m = -1 ∨ ∃ c, c < n ∧ a 7 m = nI c
          by_cases hmk : m = k
          · left; rw [hmk]; exact h7k
          · exact hV.1 m (by omega)
        · have he : a 7 m = a 7 p := he
          have h0 : ¬ a 7 m = -1 := h0
          have hmk : m ≠ k := fun z => h0 (by rw [z]; exact h7k)
          have hpk : p ≠ k := fun z => h0 (by rw [he, z]; exact h7k)
          exact hV.2 m p (by omega) (by omega) he h0
        · show upd (a 17) k (-1) m = a 7 m
          by_cases hmk : m = k
          · rw [hmk, pk_us, h7k]
          · rw [pk_un hmk]; exact h7 m (by omega)
      · have h8 : k = 8 := by omega
        subst h8
        exact OpI.thr (kk := 3) (by decide) hR (w_pallet_3 (c_pallet_x3 h1 h2 e3 hmc hms)) (m_pallet_3 h1 (e20.trans h2) e17)
    · exact OpI.thr (kk := 2) (by decide) hR (w_pallet_2 (c_pallet_x2 h1 h2 hmc hms)) (m_pallet_2 h1 (fun z => h2 (e20.symm.trans z)))
  · exact OpI.thr (kk := 1) (by decide) hR (w_pallet_1 (c_pallet_x1 h1 hmc hms)) (m_pallet_1 h1)
theorem op_place {p c : Int32} (hR : Rel i a n k g) (hmc : mc + 1 ≤ mi_CC) (hms : ms + 6 ≤ mi_CS) : OpI l D t b L xs q i a w n mc ms ML_place MX6_place [.int p, .int c] := by
  obtain ⟨⟨hn12, hk8, hg10⟩, ⟨e2, e3, e10, e12, e17, e22⟩, hb, ⟨f, s, hA⟩, hLm, hS, ⟨W, hW⟩, hV, h7, hout, hg⟩ := id hR
  have e20 : i 20 = i 0 := hb.1
  have e21 : i 21 = i 11 := hb.2.1
  by_cases h1 : 0 ≤ p ∧ p < nI k
  · obtain ⟨j, hj, rfl⟩ := in_n (by omega) h1
    by_cases h2 : c = -1 ∨ (0 ≤ c ∧ c < i 2)
    · by_cases h3 : i 0 = 0 ∨ ¬ i 11 = 0
      · exact OpI.thr (kk := 3) (by decide) hR (w_place_2 (c_place_x2 e3 hk8 hj h2 h3 hmc hms)) (m_place_3 e17 hk8 e12 hn12 hj (by rw [← e2]; exact h2) (by rw [e20, e21]; exact h3))
      · have h4 : ¬ i 0 = 0 := fun z => h3 (Or.inl z)
        have h5 : i 11 = 0 := Classical.byContradiction (fun z => h3 (Or.inr z))
        have h4' : ¬ i 20 = 0 := fun z => h4 (e20.symm.trans z)
        have h5' : i 21 = 0 := e21.trans h5
        by_cases hc : c = -1
        · subst hc
          refine OpI.ret (v := 0) (k2 := k) (g2 := g) (w_place_r (c_place_out e3 hk8 hj h4 h5)) (m_place_out (a := au a 7 (upd (a 7) j (-1))) e17 hk8 e12 hn12 hj h4' h5') rfl ?_
          exact ⟨⟨hn12, hk8, hg10⟩, ⟨e2, e3, e10, e12, e17, e22⟩, hb, ⟨f, s, hA⟩, hLm, hS, ⟨W, hW⟩, Vl_out hV, upd_c h7, fun m m1 m2 => by show upd (a 7) j (-1) m = -1; rw [pk_un (by omega)]; exact hout m m1 m2, hg⟩
        · obtain ⟨m, hm, rfl⟩ := in_n (by omega) (show 0 ≤ c ∧ c < nI n by rw [← e2]; exact h2.resolve_left hc)
          have hF := (fx_bt (i := i) (ii := upd i 18 0) (a := a) (aa := au a 7 (@ite (Nat → Int32) (fbx i a k j m = 0) inferInstance (upd (a 7) j (nI m)) (a 7))) (W := W) hA hW hS hj (show m < 12 by omega) h7 (fun p p1 p2 p3 => hV.2 p j p1 hj p2 p3)).1
          have hm9 := m_place_in (l := l) (D := D) (t := t) (b := b) (L := L) (xs := xs) (q := q) (w := (fbx i a k j m).toInt64) (mc := mc) (ms := ms) (i := i) (a := au a 7 (@ite (Nat → Int32) (fbx i a k j m = 0) inferInstance (upd (a 7) j (nI m)) (a 7))) e17 hk8 e12 hn12 hj hm h4' h5'
          rw [← hF] at hm9
          refine OpI.ret (k2 := k) (g2 := g) (w_place_r (c_place_in e3 hk8 e2 hn12 hj hm h4 h5)) hm9 rfl ?_
          by_cases h0 : fbx i a k j m = 0
          · have hfb : fb a k j m = 0 := by
              apply Classical.byContradiction
              intro z
              apply z
              rw [← h0]
              exact (cI_f z).symm
            have hP := (fb_0.mp hfb).1
            have hno : ∀ p, p < k → p ≠ j → ¬ a 7 p = nI m := fun p p1 p2 p3 => hP ⟨fun z => p2 (hV.2 p j p1 hj (p3.trans z.symm) (by rw [p3]; exact nI_m1 (by omega))), p, p1, p3⟩
            simp only [if_pos h0]
            exact ⟨⟨hn12, hk8, hg10⟩, ⟨e2, e3, e10, e12, e17, e22⟩, hb, ⟨f, s, hA⟩, hLm, hS, ⟨W, hW⟩, Vl_upd2 hV hm hn12 hno, upd_c h7, fun p m1 m2 => by show upd (a 7) j (nI m) p = -1; rw [pk_un (by omega)]; exact hout p m1 m2, hg⟩
          · simp only [if_neg h0]
            exact ⟨⟨hn12, hk8, hg10⟩, ⟨e2, e3, e10, e12, e17, e22⟩, hb, ⟨f, s, hA⟩, hLm, hS, ⟨W, hW⟩, hV, h7, hout, hg⟩
    · exact OpI.thr (kk := 2) (by decide) hR (w_place_1 (c_place_x1 e3 hk8 hj ⟨fun z => h2 (Or.inl z), fun z => h2 (Or.inr z)⟩ hmc hms)) (m_place_2 e17 hk8 e12 hn12 hj (by rw [← e2]; exact h2))
  · exact OpI.thr (kk := 1) (by decide) hR (w_place_0 (c_place_x0 e3 hk8 h1 hmc hms)) (m_place_1 e17 hk8 h1)
theorem op_at {p : Int32} (hR : Rel i a n k g) (hmc : mc + 1 ≤ mi_CC) (hms : ms + 6 ≤ mi_CS) : OpI l D t b L xs q i a w n mc ms ML_at MX6_at [.int p] := by
  obtain ⟨⟨hn12, hk8, hg10⟩, ⟨e2, e3, e10, e12, e17, e22⟩, hb, hA, hLm, hS, hW, hV, h7, hout, hg⟩ := id hR
  by_cases h1 : 0 ≤ p ∧ p < nI k
  · obtain ⟨j, hj, rfl⟩ := in_n (by omega) h1
    have hm := m_at_ok (l := l) (D := D) (t := t) (b := b) (L := L) (xs := xs) (q := q) (w := (a 7 j).toInt64) (mc := mc) (ms := ms) (i := i) (a := a) e17 hk8 hj
    rw [h7 j hj] at hm
    exact OpI.ret (w_at_r (c_at_ok e3 hk8 hj)) hm rfl (Rel_18 hR)
  · exact OpI.thr (kk := 1) (by decide) hR (w_at_0 (c_at_x0 e3 hk8 h1 hmc hms)) (m_at_1 e17 hk8 h1)
theorem op_axle {x y : Int32} (hR : Rel i a n k g) (hmc : mc + 1 ≤ mi_CC) (hms : ms + 6 ≤ mi_CS) : OpI l D t b L xs q i a w n mc ms ML_axle MX6_axle [.int x, .int y] := by
  obtain ⟨⟨hn12, hk8, hg10⟩, ⟨e2, e3, e10, e12, e17, e22⟩, hb, ⟨f, s, hA⟩, hLm, hS, ⟨W, hW⟩, hV, h7, hout, hg⟩ := id hR
  have est : stn (a 17) k = stn (a 7) k := stn_c h7
  by_cases h1 : (0 ≤ x ∧ x ≤ 1) ∧ (0 ≤ y ∧ y ≤ 1)
  · by_cases h2 : stn (a 7) k = 0
    · exact OpI.thr (kk := 2) (by decide) hR (w_axle_4 (c_axle_x4 e3 hk8 h1 h2 hmc hms)) (m_axle_2 e17 hk8 h1 (est.trans h2))
    · have hx : x = 0 ∨ x = 1 := by
        obtain ⟨j, -, j1, rfl⟩ := rng (lo := 0) (M := 1) (N := 1) (by decide) (by decide) h1.1
        match j, j1 with
        | 0, _ => exact Or.inl rfl
        | 1, _ => exact Or.inr rfl
      have eax : axn (shm i x) (a 12) (a 17) k = axn (shr i x) (a 2) (a 7) k := axn_c (shm_a hA hx) (fun m hm => (hW m hm).2.2) h7
      have hup : -2147483648 < (axn (shr i x) (a 2) (a 7) k).toInt := by
        rcases hx with rfl | rfl
        · obtain ⟨x1, x2, x3⟩ := ax_0 hA hk8 hn12 hW hV.1
          rw [x1]; omega
        · obtain ⟨x1, x2, x3⟩ := ax_1 hA hk8 hn12 hW hV.1
          rw [x1]; omega
      obtain ⟨g4, g5, g1, g2, g13, g14, -⟩ := id hA
      have hsp : i 5 - i 4 = nI (s - f) := by rw [g5, g4, pk_sub (by omega)]
      have hsp' : i 14 - i 13 = nI (s - f) := by rw [g13, g14]; exact hsp
      obtain ⟨q1, q2⟩ := sgn _ hup
      have hm := m_axle_ok (l := l) (D := D) (t := t) (b := b) (L := L) (xs := xs) (q := q) (w := (slr (axn (shr i x) (a 2) (a 7) k) (nI (s - f)) (if y = 0 then axn (shr i x) (a 2) (a 7) k else nI (s - f)) (s - f)).toInt64) (mc := mc) (ms := ms) (i := i) (a := a) e17 hk8 h1 (fun z => h2 (est.symm.trans z)) hsp' (by omega) (by omega) q1 (by rw [eax]; exact q2)
      have ev : (if y = 0 then axn (shm i x) (a 12) (a 17) k / nI (Nat.gcd (axn (shr i x) (a 2) (a 7) k).toInt.natAbs (s - f)) else nI (s - f) / nI (Nat.gcd (axn (shr i x) (a 2) (a 7) k).toInt.natAbs (s - f))) = slr (axn (shr i x) (a 2) (a 7) k) (nI (s - f)) (if y = 0 then axn (shr i x) (a 2) (a 7) k else nI (s - f)) (s - f) := by
        rw [slr_g hup (by omega) (by omega) (s - f) (Nat.gcd_le_right _ (by omega)) (Nat.le_refl _), eax]
        by_cases hy : y = 0
        · rw [if_pos hy, if_pos hy]
        · rw [if_neg hy, if_neg hy]
      rw [ev] at hm
      exact OpI.ret (w_axle_r (c_axle_ok e3 hk8 h1 h2 hsp (by omega))) hm rfl (Rel_18 hR)
  · exact OpI.thr (kk := 1) (by decide) hR (w_axle_1 (c_axle_x1 h1 hmc hms)) (m_axle_1 h1)
theorem op_bar {p : Int32} (hR : Rel i a n k g) (hmc : mc + 1 ≤ mi_CC) (hms : ms + 6 ≤ mi_CS) : OpI l D t b L xs q i a w n mc ms ML_bar MX6_bar [.int p] := by
  obtain ⟨⟨hn12, hk8, hg10⟩, ⟨e2, e3, e10, e12, e17, e22⟩, hb, ⟨f, s, hA⟩, hLm, hS, ⟨W, hW⟩, hV, h7, hout, hg⟩ := id hR
  by_cases h1 : 0 ≤ p ∧ p < nI k
  · obtain ⟨j, hj, rfl⟩ := in_n (by omega) h1
    by_cases h2 : a 7 j = -1
    · have hm := m_bar_ok (l := l) (D := D) (t := t) (b := b) (L := L) (xs := xs) (q := q) (w := (bfa (fbx i a k j) n 0 1).toInt64) (mc := mc) (ms := ms) (i := i) (a := a) e17 hk8 e12 hn12 hj ((h7 j hj).trans h2)
      rw [ba_eq (i := i) (ii := upd i 18 0) (a := a) (aa := a) (W := W) hA hW hS hj hn12 h7 (fun p p1 p2 p3 => hV.2 p j p1 hj p2 p3)] at hm
      exact OpI.ret (w_bar_r (c_bar_ok e3 hk8 e2 hn12 hj h2)) hm rfl (Rel_18 hR)
    · exact OpI.thr (kk := 2) (by decide) hR (w_bar_2 (c_bar_x2 e3 hk8 hj h2 hmc hms)) (m_bar_2 e17 hk8 hj (fun z => h2 ((h7 j hj).symm.trans z)))
  · exact OpI.thr (kk := 1) (by decide) hR (w_bar_0 (c_bar_x0 e3 hk8 h1 hmc hms)) (m_bar_1 e17 hk8 h1)
theorem op_change {p s : Int32} (hR : Rel i a n k g) (hmc : mc + 1 ≤ mi_CC) (hms : ms + 6 ≤ mi_CS) : OpB l D t b L xs q i a w n mc ms ML_change MX6_change [.int p, .int s] := by
  obtain ⟨⟨hn12, hk8, hg10⟩, ⟨e2, e3, e10, e12, e17, e22⟩, hb, hA, hLm, hS, hW, hV, h7, hout, hg⟩ := id hR
  have e20 : i 20 = i 0 := hb.1
  by_cases h1 : 0 ≤ p ∧ p < nI k
  · obtain ⟨j, hj, rfl⟩ := in_n (by omega) h1
    by_cases h2 : 1 ≤ s ∧ s ≤ 9
    · by_cases h3 : i 0 = 0
      · have hiff : ∀ r : Nat → Int32, (¬ (au a 5 r) 17 j = -1 ∧ ko (au (au a 5 r) 15 (upd ((au a 5 r) 15) j s)) k j ((au a 5 r) 17 j) 5) ↔ (¬ a 7 j = -1 ∧ spP (a 5) (a 7) k j s (a 7 j)) := by
          intro r
          show (¬ a 17 j = -1 ∧ ∃ m, m < k ∧ m ≠ j ∧ ¬ a 17 m = -1 ∧ (upd (a 15) j s j < upd (a 15) j s m ∧ a 17 j < a 17 m ∨ upd (a 15) j s m < upd (a 15) j s j ∧ a 17 m < a 17 j)) ↔ _
          rw [h7 j hj, pk_us]
          constructor
          · rintro ⟨g0, m, m1, m2, m3, m4⟩
            rw [h7 m m1, pk_un m2, (hS.2 m m1).2.2.2.1] at m4
            exact ⟨g0, m, m1, m2, by rw [← h7 m m1]; exact m3, m4.symm⟩
          · rintro ⟨g0, m, m1, m2, m3, m4⟩
            exact ⟨g0, m, m1, m2, by rw [h7 m m1]; exact m3, by rw [h7 m m1, pk_un m2, (hS.2 m m1).2.2.2.1]; exact m4.symm⟩
        have hm := m_change_ok (l := l) (D := D) (t := t) (b := b) (L := L) (xs := xs) (q := q) (w := bL (bI (¬ (¬ a 7 j = -1 ∧ spP (a 5) (a 7) k j s (a 7 j))))) (mc := mc) (ms := ms) (i := i) (a := au a 5 (cS (¬ a 7 j = -1 ∧ spP (a 5) (a 7) k j s (a 7 j)) (a 5) (upd (a 5) j s))) e17 hk8 hj h2 (e20.trans h3)
        rw [propext (hiff _)] at hm
        refine OpB.ret (k2 := k) (g2 := g) (w_change_r (c_change_ok e3 hk8 hj h2 h3)) hm rfl ?_
        have h55 : ∀ m, m < k → cS (¬ a 7 j = -1 ∧ spP (a 5) (a 7) k j s (a 7 j)) (a 15) (upd (a 15) j s) m = cS (¬ a 7 j = -1 ∧ spP (a 5) (a 7) k j s (a 7 j)) (a 5) (upd (a 5) j s) m := by
          intro m hm
          by_cases hc : ¬ a 7 j = -1 ∧ spP (a 5) (a 7) k j s (a 7 j)
          · rw [cS_t hc, cS_t hc]; exact (hS.2 m hm).2.2.2.1
          · rw [cS_f hc, cS_f hc]; exact upd_c (fun m hm => (hS.2 m hm).2.2.2.1) m hm
        exact ⟨⟨hn12, hk8, hg10⟩, ⟨e2, e3, e10, e12, e17, e22⟩, hb, hA, hLm, ⟨hS.1, fun m hm => ⟨(hS.2 m hm).1, (hS.2 m hm).2.1, (hS.2 m hm).2.2.1, h55 m hm, (hS.2 m hm).2.2.2.2⟩⟩, hW, hV, h7, hout, hg⟩
      · exact OpB.thr (kk := 3) (by decide) hR (w_change_2 (c_change_x2 e3 hk8 hj h2 h3 hmc hms)) (m_change_3 e17 hk8 hj h2 (fun z => h3 (e20.symm.trans z)))
    · exact OpB.thr (kk := 2) (by decide) hR (w_change_1 (c_change_x1 e3 hk8 hj h2 hmc hms)) (m_change_2 e17 hk8 hj h2)
  · exact OpB.thr (kk := 1) (by decide) hR (w_change_0 (c_change_x0 e3 hk8 h1 hmc hms)) (m_change_1 e17 hk8 h1)
theorem op_doors {o : Int32} (ho : o = 0 ∨ o = 1) (hR : Rel i a n k g) (hmc : mc + 1 ≤ mi_CC) (hms : ms + 6 ≤ mi_CS) : OpB l D t b L xs q i a w n mc ms ML_doors MX6_doors [.int o] := by
  obtain ⟨r1, r2, ⟨e20, e21, e19, b0, b1⟩, r4⟩ := id hR
  by_cases h1 : o = 0 ∨ i 11 = 0
  · have hm := m_doors_ok (l := l) (D := D) (t := t) (b := b) (L := L) (xs := xs) (q := q) (w := bL (i 0)) (mc := mc) (ms := ms) (i := upd i 0 o) (a := a) ho (show i 20 = 0 ∨ i 20 = 1 by rw [e20]; exact b0) (show o = 0 ∨ i 21 = 0 by rw [e21]; exact h1)
    rw [show (upd i 0 o) 20 = i 0 from e20] at hm
    exact OpB.ret (k2 := k) (g2 := g) (w_doors_r (c_doors_ok ho b0 h1)) hm rfl ⟨r1, r2, ⟨rfl, e21, e19, ho, b1⟩, r4⟩
  · have h2 : ¬ o = 0 := fun z => h1 (Or.inl z)
    have h3 : ¬ i 11 = 0 := fun z => h1 (Or.inr z)
    exact OpB.thr (kk := 1) (by decide) hR (w_doors_2 (c_doors_x2 h2 h3 hmc hms)) (m_doors_1 h2 (fun z => h3 (e21.symm.trans z)))
theorem op_seal {x : Int32} (hR : Rel i a n k g) (hmc : mc + 1 ≤ mi_CC) (hms : ms + 6 ≤ mi_CS) : OpB l D t b L xs q i a w n mc ms ML_seal MX6_seal [.int x] := by
  obtain ⟨⟨hn12, hk8, hg10⟩, ⟨e2, e3, e10, e12, e17, e22⟩, ⟨e20, e21, e19, b0, b1⟩, hA, hLm, hS, hW, hV, h7, hout, hg⟩ := id hR
  by_cases h1 : 1 ≤ x ∧ x ≤ 1000000
  · by_cases h2 : ¬ i 0 = 0 ∨ ¬ i 11 = 0
    · exact OpB.thr (kk := 2) (by decide) hR (w_seal_2 (c_seal_x2 h1 h2 hmc hms)) (m_seal_2 h1 (by rw [e20, e21]; exact h2))
    · have h3 : i 0 = 0 := Classical.byContradiction (fun z => h2 (Or.inl z))
      have h4 : i 11 = 0 := Classical.byContradiction (fun z => h2 (Or.inr z))
      by_cases h5 : g < 10
      · by_cases h6 : ∃ m, m < g ∧ a 9 m = x
        · exact OpB.ret (v := 0) (k2 := k) (g2 := g) (w_seal_r (c_seal_no e10 hg10 h5 h1 h3 h4 h6)) (m_seal_no e22 hg10 h5 h1 (e20.trans h3) (e21.trans h4) (by obtain ⟨m, m1, m2⟩ := h6; exact ⟨m, m1, by rw [hg m m1]; exact m2⟩)) rfl (Rel_18 hR)
        · refine OpB.ret (v := 1) (k2 := k) (g2 := g + 1) (w_seal_r (c_seal_ok e10 hg10 h5 h1 h3 h4 h6)) (m_seal_ok (i := upd (upd i 10 (nI (g + 1))) 11 x) (a := au a 9 (upd (a 9) g x)) e22 hg10 h5 h1 (e20.trans h3) (e21.trans h4) (fun ⟨m, m1, m2⟩ => h6 ⟨m, m1, by rw [← hg m m1]; exact m2⟩)) rfl ?_
          refine ⟨⟨hn12, hk8, by omega⟩, ⟨e2, e3, rfl, e12, e17, rfl⟩, ⟨e20, rfl, e19, b0, b1⟩, hA, hLm, hS, hW, hV, h7, hout, fun m hm => ?_⟩
          show upd (a 19) g x m = upd (a 9) g x m
          by_cases hmg : m = g
          · rw [hmg, pk_us, pk_us]
          · rw [pk_un hmg, pk_un hmg]; exact hg m (by omega)
      · have h8 : g = 10 := by omega
        subst h8
        exact OpB.thr (kk := 3) (by decide) hR (w_seal_3 (c_seal_x3 h1 h3 h4 e10 hmc hms)) (m_seal_3 h1 (e20.trans h3) (e21.trans h4) e22)
  · exact OpB.thr (kk := 1) (by decide) hR (w_seal_1 (c_seal_x1 h1 hmc hms)) (m_seal_1 h1)
theorem op_broken (hR : Rel i a n k g) (hmc : mc + 1 ≤ mi_CC) (hms : ms + 6 ≤ mi_CS) : OpI l D t b L xs q i a w n mc ms ML_broken MX6_broken [] := by
  obtain ⟨r1, r2, ⟨e20, e21, e19, b0, b1⟩, r4⟩ := id hR
  by_cases h1 : i 11 = 0
  · exact ⟨1, 0, i, _, a, _, w, _, _, k, g, w_broken_2 (c_broken_x2 h1 hmc hms), MC.up (by omega) (m_broken_1 (e21.trans h1)), rfl, fun z => absurd z (by decide), ⟨r1, r2, ⟨e20, h1.symm, e19, b0, b1⟩, r4⟩, Nat.le_refl _, Nat.le_refl _⟩
  · have hm := m_broken_ok (l := l) (D := D) (t := t) (b := b) (L := L) (xs := xs) (q := q) (w := (i 11).toInt64) (mc := mc) (ms := ms) (i := upd i 11 0) (a := a) (fun z => h1 (e21.symm.trans z))
    rw [show (upd i 11 0) 21 = i 11 from e21] at hm
    exact OpI.ret (k2 := k) (g2 := g) (w_broken_r (c_broken_ok h1)) hm rfl ⟨r1, r2, ⟨e20, rfl, e19, b0, b1⟩, r4⟩
theorem op_order {s x : Int32} (hR : Rel i a n k g) (hmc : mc + 1 ≤ mi_CC) (hms : ms + 6 ≤ mi_CS) : OpI l D t b L xs q i a w n mc ms ML_order MX6_order [.int s, .int x] := by
  obtain ⟨⟨hn12, hk8, hg10⟩, ⟨e2, e3, e10, e12, e17, e22⟩, hb, hA, hLm, hS, hW, hV, h7, hout, hg⟩ := id hR
  by_cases h1 : (1 ≤ s ∧ s ≤ 9) ∧ 0 ≤ x
  · have hm := m_order_ok (l := l) (D := D) (t := t) (b := b) (L := L) (xs := xs) (q := q) (w := (fdr (fun m => sfr (fun p => a 7 p = nI m ∧ a 5 p = s) k 0) x n 0).toInt64) (mc := mc) (ms := ms) (i := i) (a := a) e17 hk8 e12 hn12 h1
    rw [or_eq hS hk8 hn12 hV h7 n 0 (Nat.le_refl _)] at hm
    exact OpI.ret (w_order_r (c_order_ok e3 hk8 e2 hn12 h1)) hm rfl (Rel_18 hR)
  · exact OpI.thr (kk := 1) (by decide) hR (w_order_1 (c_order_x1 h1 hmc hms)) (m_order_1 h1)
theorem op_manifest {x : Int32} (hR : Rel i a n k g) (hmc : mc + 1 ≤ mi_CC) (hms : ms + 6 ≤ mi_CS) : OpI l D t b L xs q i a w n mc ms ML_manifest MX6_manifest [.int x] := by
  obtain ⟨⟨hn12, hk8, hg10⟩, ⟨e2, e3, e10, e12, e17, e22⟩, hb, hA, hLm, hS, hW, hV, h7, hout, hg⟩ := id hR
  by_cases h1 : 0 ≤ x ∧ x ≤ 10000
  · have hm := m_manifest_ok (l := l) (D := D) (t := t) (b := b) (L := L) (xs := xs) (q := q) (w := (x - wtn (a 2) (a 7) k).toInt64) (mc := mc) (ms := ms) (i := i) (a := a) e17 hk8 h1
    rw [show wtn (a 12) (a 17) k = wtn (a 2) (a 7) k from wtn_c (fun m hm => (hS.2 m hm).1) h7] at hm
    exact OpI.ret (w_manifest_r (c_manifest_ok e3 hk8 h1)) hm rfl (Rel_18 hR)
  · exact OpI.thr (kk := 1) (by decide) hR (w_manifest_1 (c_manifest_x1 h1 hmc hms)) (m_manifest_1 h1)
end OpsA
