/-! Placing by rule, bound, order, bar, axle: class and reference alike. -/
theorem nI_inj {x y : Nat} (hx : x < 1000) (hy : y < 1000) (h : nI x = nI y) : x = y := (nI_eq (by omega) (by omega)).mp h
theorem pfo_c {p p' : Nat → Prop} : ∀ (r c : Nat), (∀ x, c ≤ x → x < c + r → (p x ↔ p' x)) → pfo p r c = pfo p' r c
  | 0, _, _ => rfl
  | r + 1, c, h => by
    have h0 := h c (Nat.le_refl _) (by omega)
    by_cases hp : p c
    · rw [pfo_t hp, pfo_t (h0.mp hp)]
    · rw [pfo_f hp, pfo_f (fun z => hp (h0.mpr z))]
      exact pfo_c r (c + 1) (fun x h1 h2 => h x (by omega) (by omega))
/-- both rules stand alike: the next cell, and where the pallets are -/
def RI (n k : Nat) (st st' : Nat × (Nat → Int32)) : Prop := st.1 = st'.1 ∧ st.1 ≤ n ∧ (∀ m, m < k → st'.2 m = st.2 m) ∧ Vl st.2 n k ∧ ∀ m, m < k → st.2 m = -1 ∨ ∃ c, c < st.1 ∧ st.2 m = nI c
section RuleEq
variable {a aa : Nat → Nat → Int32} {n k : Nat}
theorem pb_s (hS : Sm a aa k) (hn : n ≤ 12) {s j : Nat} (hj : j < k) {st st' : Nat × (Nat → Int32)} (h : RI n k st st') : RI n k (pbs a n k s j st) (pms aa n k s j st') := by
  obtain ⟨x, wh⟩ := st
  obtain ⟨x', wh'⟩ := st'
  obtain ⟨hx, hxn, he, hV, hc⟩ := id h
  have hx : x = x' := hx
  subst hx
  have hxn : x ≤ n := hxn
  have he : ∀ m, m < k → wh' m = wh m := he
  have hV : Vl wh n k := hV
  have hc : ∀ m, m < k → wh m = -1 ∨ ∃ c, c < x ∧ wh m = nI c := hc
  have hno : ∀ c, x ≤ c → c < n → ∀ p, p < k → ¬ wh p = nI c := by
    intro c h1 h2 p hp hz
    rcases hc p hp with h3 | ⟨c', h3, h4⟩
    · exact nI_m1 (by omega) (hz.symm.trans h3)
    · have := nI_inj (by omega) (by omega) (h4.symm.trans hz)
      omega
  have ep : pfo (fun c => fb (au a 7 wh) k j c = 0) (n - x) x = pfo (fun c => ¬ rkP (au aa 17 wh') k j c) (n - x) x := pfo_c _ _ (fun c h1 h2 => fb_rk hS hj (by omega) he (hno c h1 (by omega)))
  have e5 : aa 15 j = a 5 j := (hS.2 j hj).2.2.2.1
  by_cases hs : a 5 j = nI s
  · rw [show pbs a n k s j (x, wh) = (pfv (pfo (fun c => fb (au a 7 wh) k j c = 0) (n - x) x) x, pfw (pfo (fun c => fb (au a 7 wh) k j c = 0) (n - x) x) wh j) from if_pos hs,
      show pms aa n k s j (x, wh') = (pfv (pfo (fun c => ¬ rkP (au aa 17 wh') k j c) (n - x) x) x, pfw (pfo (fun c => ¬ rkP (au aa 17 wh') k j c) (n - x) x) wh' j) from if_pos (e5.trans hs), ← ep]
    cases hp : pfo (fun c => fb (au a 7 wh) k j c = 0) (n - x) x with
    | none => exact h
    | some c =>
      obtain ⟨g1, g2, g3⟩ := pfo_le hp
      refine ⟨rfl, by show c + 1 ≤ n; omega, fun m hm => ?_, Vl_upd hV (by omega) hn (hno c g1 (by omega)), fun m hm => ?_⟩
      · show upd wh' j (nI c) m = upd wh j (nI c) m
        by_cases h1 : m = j
        · rw [h1, pk_us, pk_us]
        · rw [pk_un h1, pk_un h1]; exact he m hm
      · show upd wh j (nI c) m = -1 ∨ ∃ c', c' < c + 1 ∧ upd wh j (nI c) m = nI c'
        by_cases h1 : m = j
        · right; exact ⟨c, by omega, by rw [h1, pk_us]⟩
        · rw [pk_un h1]
          rcases hc m hm with h3 | ⟨c', h3, h4⟩
          · exact Or.inl h3
          · exact Or.inr ⟨c', by omega, h4⟩
  · rw [show pbs a n k s j (x, wh) = (x, wh) from if_neg hs, show pms aa n k s j (x, wh') = (x, wh') from if_neg (fun z => hs (e5.symm.trans z))]
    exact h
theorem pb_j (hS : Sm a aa k) (hn : n ≤ 12) {s : Nat} : ∀ (r j : Nat) (st st' : Nat × (Nat → Int32)), j + r = k → RI n k st st' → RI n k (pbj a n k s r j st) (pmj aa n k s r j st')
  | 0, _, _, _, _, h => h
  | r + 1, j, st, st', hj, h => pb_j hS hn r (j + 1) _ _ (by omega) (pb_s hS hn (by omega) h)
theorem pb_o (hS : Sm a aa k) (hn : n ≤ 12) : ∀ (s : Nat) (st st' : Nat × (Nat → Int32)), RI n k st st' → RI n k (pbo a n k s st) (pmo aa n k s st')
  | 0, _, _, h => h
  | s + 1, st, st', h => pb_o hS hn s _ _ (pb_j hS hn k 0 _ _ (by omega) h)
/-- bound -/
theorem psn_c {p p' : Nat → Prop} : ∀ (k : Nat), (∀ m, m < k → (p m ↔ p' m)) → psn p k = psn p' k
  | 0, _ => rfl
  | k + 1, h => by
    have e := psn_c k (fun m hm => h m (by omega))
    have h0 := h k (by omega)
    by_cases hp : p k
    · rw [show psn p (k + 1) = psn p k + 1 from cI_t hp, show psn p' (k + 1) = psn p' k + 1 from cI_t (h0.mp hp), e]
    · rw [show psn p (k + 1) = psn p k from cI_f hp, show psn p' (k + 1) = psn p' k from cI_f (fun z => hp (h0.mpr z)), e]
theorem mn_comm {x y : Int32} : mn x y = mn y x := by
  unfold mn
  by_cases h : y < x
  · rw [if_pos h, if_neg (fun z => Int32.lt_irrefl (Int32.lt_trans h z))]
  · rw [if_neg h]
    by_cases h2 : x < y
    · rw [if_pos h2]
    · rw [if_neg h2]
      exact Int32.le_antisymm (Int32.not_lt.mp h) (Int32.not_lt.mp h2)
theorem bd_eq (hS : Sm a aa k) (hn : n ≤ 12) : psn (fsM aa k n) k = psn (fsP a n) k := by
  refine psn_c k (fun j hj => ?_)
  have e17 : au aa 17 (aa 17) = aa := au_self
  unfold fsM fsP
  constructor
  · rintro ⟨m, h1, h2, h3⟩
    have k2 := ko_2 (wh' := aa 17) hS hj (show m < 12 by omega)
    have k3 := ko_3 (wh' := aa 17) hS hj (show m < 12 by omega)
    rw [e17] at k2 k3
    exact ⟨m, h1, fun z => h2 (k2.mpr z), fun z => h3 (k3.mpr z)⟩
  · rintro ⟨m, h1, h2, h3⟩
    have k2 := ko_2 (wh' := aa 17) hS hj (show m < 12 by omega)
    have k3 := ko_3 (wh' := aa 17) hS hj (show m < 12 by omega)
    rw [e17] at k2 k3
    exact ⟨m, h1, fun z => h2 (k2.mp z), fun z => h3 (k3.mp z)⟩
/-- order -/
theorem sfr_u {p : Nat → Prop} {m0 : Nat} (hk : k ≤ 8) (h0 : m0 < k) (hp : p m0) (hu : ∀ m, m < k → p m → m = m0) : sfr p k 0 = nI m0 := by
  rcases sfr_in (p := p) k 0 with h | ⟨m, -, h2, h3, -, h5⟩
  · exact absurd ⟨m0, h0, hp⟩ ((sfr_0 (by omega)).mp h)
  · rw [h5, hu m (by omega) h3]
theorem or_eq (hS : Sm a aa k) (hk : k ≤ 8) (hn : n ≤ 12) (hV : Vl (a 7) n k) (he : ∀ m, m < k → aa 17 m = a 7 m) {s x : Int32} : ∀ (c : Nat) (y : Int32), c ≤ n → fdm aa k s x c y = fdr (fun m => sfr (fun p => a 7 p = nI m ∧ a 5 p = s) k 0) x c y
  | 0, _, _ => rfl
  | c + 1, y, hc => by
    have i1 := fun y => or_eq hS hk hn hV he (s := s) (x := x) c y (by omega)
    show cI (∃ m, m < k ∧ aa 17 m = nI c) (if aa 15 (sfr (fun p => aa 17 p = nI c) k 0).toNatClampNeg = s then (if y = x then sfr (fun p => aa 17 p = nI c) k 0 else fdm aa k s x c (y + 1)) else fdm aa k s x c y) (fdm aa k s x c y) = (if sfr (fun p => a 7 p = nI c ∧ a 5 p = s) k 0 < 0 then fdr (fun m => sfr (fun p => a 7 p = nI m ∧ a 5 p = s) k 0) x c y else if y = x then sfr (fun p => a 7 p = nI c ∧ a 5 p = s) k 0 else fdr (fun m => sfr (fun p => a 7 p = nI m ∧ a 5 p = s) k 0) x c (y + 1))
    rw [i1, i1]
    by_cases hx : ∃ m, m < k ∧ a 7 m = nI c
    · obtain ⟨m0, h1, h2⟩ := hx
      have hne : ¬ a 7 m0 = -1 := by rw [h2]; exact nI_m1 (by omega)
      have hu : ∀ m, m < k → a 7 m = nI c → m = m0 := fun m hm h3 => (hV.2 m0 m h1 hm (h2.trans h3.symm) hne).symm
      have e1 : sfr (fun p => aa 17 p = nI c) k 0 = nI m0 := sfr_u hk h1 (by show aa 17 m0 = nI c; rw [he m0 h1]; exact h2) (fun m hm h3 => hu m hm (by rw [← he m hm]; exact h3))
      rw [cI_t ⟨m0, h1, by rw [he m0 h1]; exact h2⟩, e1, nI_clamp (by omega), (hS.2 m0 h1).2.2.2.1]
      by_cases hs : a 5 m0 = s
      · have e2 : sfr (fun p => a 7 p = nI c ∧ a 5 p = s) k 0 = nI m0 := sfr_u hk h1 ⟨h2, hs⟩ (fun m hm h3 => hu m hm h3.1)
        rw [e2, if_pos hs, if_neg (nI_pos (by omega))]
      · have e2 : sfr (fun p => a 7 p = nI c ∧ a 5 p = s) k 0 = -1 := (sfr_0 (by omega)).mpr (fun ⟨m, hm, h3, h4⟩ => hs (by rw [← hu m hm h3]; exact h4))
        rw [e2, if_neg hs, if_pos (by decide)]
    · have e2 : sfr (fun p => a 7 p = nI c ∧ a 5 p = s) k 0 = -1 := (sfr_0 (by omega)).mpr (fun ⟨m, hm, h3, _⟩ => hx ⟨m, hm, h3⟩)
      rw [cI_f (fun ⟨m, hm, h3⟩ => hx ⟨m, hm, by rw [← he m hm]; exact h3⟩), e2, if_pos (by decide)]
end RuleEq
/-! bar -/
/-- the first of r from j on that is B, else 0 -/
noncomputable def ff (B : Nat → Prop) : Nat → Nat → Nat
  | 0, _ => 0
  | r + 1, j => @ite Nat (B j) (Classical.propDecidable (B j)) j (ff B r (j + 1))
theorem ff_t {B : Nat → Prop} {r j : Nat} (h : B j) : ff B (r + 1) j = j := if_pos h
theorem ff_f {B : Nat → Prop} {r j : Nat} (h : ¬ B j) : ff B (r + 1) j = ff B r (j + 1) := if_neg h
theorem ff_sp {B : Nat → Prop} : ∀ (r j : Nat), (ff B r j = 0 ∧ ∀ v, j ≤ v → v < j + r → ¬ B v) ∨ (j ≤ ff B r j ∧ ff B r j < j + r ∧ B (ff B r j) ∧ ∀ v, j ≤ v → v < ff B r j → ¬ B v)
  | 0, j => Or.inl ⟨rfl, fun v h1 h2 => absurd h2 (by omega)⟩
  | r + 1, j => by
    by_cases hb : B j
    · rw [ff_t hb]
      exact Or.inr ⟨Nat.le_refl _, by omega, hb, fun v h1 h2 => absurd h2 (by omega)⟩
    · rw [ff_f hb]
      rcases ff_sp r (j + 1) with ⟨h1, h2⟩ | ⟨h1, h2, h3, h4⟩
      · refine Or.inl ⟨h1, fun v v1 v2 => ?_⟩
        rcases Nat.eq_or_lt_of_le v1 with rfl | v3
        · exact hb
        · exact h2 v v3 (by omega)
      · refine Or.inr ⟨by omega, by omega, h3, fun v v1 v2 => ?_⟩
        rcases Nat.eq_or_lt_of_le v1 with rfl | v3
        · exact hb
        · exact h4 v v3 v2
theorem ff_u {B : Nat → Prop} {r j v : Nat} (h1 : j ≤ v) (h2 : v < j + r) (h3 : B v) (h4 : ∀ w, j ≤ w → w < v → ¬ B w) : ff B r j = v := by
  rcases ff_sp (B := B) r j with ⟨-, h6⟩ | ⟨g1, g2, g3, g4⟩
  · exact absurd h3 (h6 v h1 h2)
  · rcases Nat.lt_trichotomy (ff B r j) v with h | h | h
    · exact absurd g3 (h4 _ g1 h)
    · exact h
    · exact absurd h3 (g4 v h1 h)
theorem ff_0 {B : Nat → Prop} {r j : Nat} (hj : 1 ≤ j) (h4 : ∀ w, j ≤ w → w < j + r → ¬ B w) : ff B r j = 0 := by
  rcases ff_sp (B := B) r j with ⟨h5, -⟩ | ⟨g1, g2, g3, g4⟩
  · exact h5
  · exact absurd g3 (h4 _ g1 g2)
theorem sfd_ff {B : Nat → Prop} : ∀ (r j : Nat), sfd B 0 r j = nI (ff B r j)
  | 0, _ => rfl
  | r + 1, j => by
    by_cases hb : B j
    · rw [ff_t hb]; exact cI_t hb
    · rw [ff_f hb, show sfd B 0 (r + 1) j = sfd B 0 r (j + 1) from cI_f hb]; exact sfd_ff r (j + 1)
/-- the farthest, by naturals -/
def bfN (F : Nat → Nat) : Nat → Nat → Nat → Nat
  | 0, _, x => x
  | r + 1, c, x => if F c = 0 then 0 else bfN F r (c + 1) (if x < F c then F c else x)
theorem bfa_N {g : Nat → Int32} {F : Nat → Nat} : ∀ (r c x : Nat), (∀ y, c ≤ y → y < c + r → g y = nI (F y) ∧ F y ≤ 6) → x ≤ 6 → bfa g r c (nI x) = nI (bfN F r c x)
  | 0, _, _, _, _ => rfl
  | r + 1, c, x, h, hx => by
    obtain ⟨e, hF⟩ := h c (Nat.le_refl _) (by omega)
    show (if g c = 0 then 0 else bfa g r (c + 1) (if nI x < g c then g c else nI x)) = nI (if F c = 0 then 0 else bfN F r (c + 1) (if x < F c then F c else x))
    rw [e]
    by_cases h0 : F c = 0
    · rw [if_pos (show nI (F c) = 0 by rw [h0]; rfl), if_pos h0]; rfl
    · rw [if_neg (nI_ne0 (by omega) (by omega)), if_neg h0]
      by_cases h1 : x < F c
      · rw [if_pos (nI_lt h1 (by omega)), if_pos h1]
        exact bfa_N r (c + 1) (F c) (fun y h2 h3 => h y (by omega) (by omega)) hF
      · rw [if_neg (nI_nlt (by omega) (by omega)), if_neg h1]
        exact bfa_N r (c + 1) x (fun y h2 h3 => h y (by omega) (by omega)) hx
theorem bfN_0 {F : Nat → Nat} : ∀ (r c x : Nat), (∃ y, c ≤ y ∧ y < c + r ∧ F y = 0) → bfN F r c x = 0
  | 0, _, _, ⟨y, h1, h2, _⟩ => absurd h2 (by omega)
  | r + 1, c, x, ⟨y, h1, h2, h3⟩ => by
    show (if F c = 0 then 0 else bfN F r (c + 1) _) = 0
    by_cases h0 : F c = 0
    · rw [if_pos h0]
    · rw [if_neg h0]
      refine bfN_0 r (c + 1) _ ⟨y, ?_, by omega, h3⟩
      rcases Nat.eq_or_lt_of_le h1 with rfl | h4
      · exact absurd h3 h0
      · exact h4
theorem bfN_m {F : Nat → Nat} : ∀ (r c x : Nat), (∀ y, c ≤ y → y < c + r → ¬ F y = 0) → x ≤ bfN F r c x ∧ (∀ y, c ≤ y → y < c + r → F y ≤ bfN F r c x) ∧ (bfN F r c x = x ∨ ∃ y, c ≤ y ∧ y < c + r ∧ F y = bfN F r c x)
  | 0, _, _, _ => ⟨Nat.le_refl _, fun y h1 h2 => absurd h2 (by omega), Or.inl rfl⟩
  | r + 1, c, x, h => by
    have e : bfN F (r + 1) c x = bfN F r (c + 1) (if x < F c then F c else x) := if_neg (h c (Nat.le_refl _) (by omega))
    obtain ⟨h1, h2, h3⟩ := bfN_m r (c + 1) (if x < F c then F c else x) (fun y y1 y2 => h y (by omega) (by omega))
    rw [e]
    have hx : x ≤ (if x < F c then F c else x) ∧ F c ≤ (if x < F c then F c else x) := by split <;> omega
    refine ⟨by omega, fun y y1 y2 => ?_, ?_⟩
    · rcases Nat.eq_or_lt_of_le y1 with rfl | y3
      · omega
      · exact h2 y y3 (by omega)
    · rcases h3 with h3 | ⟨y, y1, y2, y3⟩
      · by_cases hlt : x < F c
        · right
          rw [if_pos hlt] at h3 ⊢
          exact ⟨c, Nat.le_refl _, by omega, h3.symm⟩
        · left
          rw [if_neg hlt] at h3 ⊢
          exact h3
      · right
        exact ⟨y, by omega, by omega, y3⟩
section BarEq
variable {i ii : Nat → Int32} {a aa : Nat → Nat → Int32} {n k j f s : Nat} {W : Nat → Nat}
/-- what keeps the pallet j off the cell m, thing by thing, the axles last -/
def Bt (ii : Nat → Int32) (aa : Nat → Nat → Int32) (k j m v : Nat) : Prop := (v = 6 ∧ ¬ brM ii (aa 12) (upd (aa 17) j (nI m)) k) ∨ (v ≠ 6 ∧ ko aa k j (nI m) v)
theorem bt_il {m v : Nat} : ilP ii aa k j m v ↔ ¬ Bt ii aa k j m v := by
  unfold ilP Bt
  by_cases h6 : v = 6
  · constructor
    · rintro (⟨-, h⟩ | ⟨h, -⟩)
      · rintro (⟨-, h2⟩ | ⟨h2, -⟩)
        · exact h2 h
        · exact h2 h6
      · exact absurd h6 h
    · intro h
      exact Or.inl ⟨h6, Classical.byContradiction (fun z => h (Or.inl ⟨h6, z⟩))⟩
  · constructor
    · rintro (⟨h, -⟩ | ⟨-, h⟩)
      · exact absurd h h6
      · rintro (⟨h2, -⟩ | ⟨-, h2⟩)
        · exact h6 h2
        · exact h h2
    · intro h
      exact Or.inr ⟨h6, fun z => h (Or.inr ⟨h6, z⟩)⟩
theorem fx_bt (hA : Ax i ii f s) (hW : Wt a aa W k) (hS : Sm a aa k) (hj : j < k) {m : Nat} (hm : m < 12) (h : ∀ p, p < k → aa 17 p = a 7 p) (hd : ∀ p, p < k → a 7 p = a 7 j → ¬ a 7 p = -1 → p = j) :
    fbx i a k j m = sfd (ko aa k j (nI m)) (cI (brM ii (aa 12) (upd (aa 17) j (nI m)) k) 0 6) 5 1 ∧ fbx i a k j m = nI (ff (Bt ii aa k j m) 6 1) := by
  have hbr : brM ii (aa 12) (upd (aa 17) j (nI m)) k ↔ brP i (a 2) (upd (a 7) j (nI m)) k := br_a hA hW (fun p hp => by
    by_cases h1 : p = j
    · rw [h1, pk_us, pk_us]
    · rw [pk_un h1, pk_un h1]; exact h p hp)
  have e1 : fbx i a k j m = sfd (ko aa k j (nI m)) (cI (brM ii (aa 12) (upd (aa 17) j (nI m)) k) 0 6) 5 1 := by
    rw [fb_sf hS hj hm h hd, propext hbr]
    rfl
  refine ⟨e1, ?_⟩
  rw [e1]
  have b : ∀ v, v ≠ 6 → (Bt ii aa k j m v ↔ ko aa k j (nI m) v) := fun v hv => ⟨fun z => z.elim (fun y => absurd y.1 hv) (fun y => y.2), fun z => Or.inr ⟨hv, z⟩⟩
  have b6 : Bt ii aa k j m 6 ↔ ¬ brM ii (aa 12) (upd (aa 17) j (nI m)) k := ⟨fun z => z.elim (fun y => y.2) (fun y => absurd rfl y.1), fun z => Or.inl ⟨rfl, z⟩⟩
  show cI (ko aa k j (nI m) 1) 1 (cI (ko aa k j (nI m) 2) 2 (cI (ko aa k j (nI m) 3) 3 (cI (ko aa k j (nI m) 4) 4 (cI (ko aa k j (nI m) 5) 5 (cI (brM ii (aa 12) (upd (aa 17) j (nI m)) k) 0 6))))) = _
  by_cases h1 : ko aa k j (nI m) 1
  · rw [cI_t h1, ff_t ((b 1 (by decide)).mpr h1)]; rfl
  rw [cI_f h1, ff_f (fun z => h1 ((b 1 (by decide)).mp z))]
  by_cases h2 : ko aa k j (nI m) 2
  · rw [cI_t h2, ff_t ((b 2 (by decide)).mpr h2)]; rfl
  rw [cI_f h2, ff_f (fun z => h2 ((b 2 (by decide)).mp z))]
  by_cases h3 : ko aa k j (nI m) 3
  · rw [cI_t h3, ff_t ((b 3 (by decide)).mpr h3)]; rfl
  rw [cI_f h3, ff_f (fun z => h3 ((b 3 (by decide)).mp z))]
  by_cases h4 : ko aa k j (nI m) 4
  · rw [cI_t h4, ff_t ((b 4 (by decide)).mpr h4)]; rfl
  rw [cI_f h4, ff_f (fun z => h4 ((b 4 (by decide)).mp z))]
  by_cases h5 : ko aa k j (nI m) 5
  · rw [cI_t h5, ff_t ((b 5 (by decide)).mpr h5)]; rfl
  rw [cI_f h5, ff_f (fun z => h5 ((b 5 (by decide)).mp z))]
  by_cases h6 : brM ii (aa 12) (upd (aa 17) j (nI m)) k
  · rw [cI_t h6, ff_f (fun z => b6.mp z h6)]; rfl
  · rw [cI_f h6, ff_t (b6.mpr h6)]; rfl
theorem lf_F {u m : Nat} (hu : u ≤ 6) : lfP ii aa k j u m ↔ (ff (Bt ii aa k j m) 6 1 = 0 ∨ u < ff (Bt ii aa k j m) 6 1) := by
  unfold lfP
  rcases ff_sp (B := Bt ii aa k j m) 6 1 with ⟨h1, h2⟩ | ⟨h1, h2, h3, h4⟩
  · exact ⟨fun _ => Or.inl h1, fun _ v v1 v2 => bt_il.mpr (h2 v v1 (by omega))⟩
  · constructor
    · intro z
      right
      rcases Nat.lt_or_ge u (ff (Bt ii aa k j m) 6 1) with h5 | h5
      · exact h5
      · exact absurd h3 (bt_il.mp (z _ h1 h5))
    · rintro (z | z) v v1 v2
      · omega
      · exact bt_il.mpr (h4 v v1 (by omega))
theorem ba_eq (hA : Ax i ii f s) (hW : Wt a aa W k) (hS : Sm a aa k) (hj : j < k) (hn : n ≤ 12) (h : ∀ p, p < k → aa 17 p = a 7 p) (hd : ∀ p, p < k → a 7 p = a 7 j → ¬ a 7 p = -1 → p = j) :
    sfd (fun u => ¬ leP ii aa k n j u) 0 6 1 = bfa (fbx i a k j) n 0 1 := by
  have hF : ∀ y, 0 ≤ y → y < 0 + n → fbx i a k j y = nI (ff (Bt ii aa k j y) 6 1) ∧ ff (Bt ii aa k j y) 6 1 ≤ 6 := by
    intro y _ hy
    refine ⟨(fx_bt hA hW hS hj (by omega) h hd).2, ?_⟩
    rcases ff_sp (B := Bt ii aa k j y) 6 1 with ⟨h1, -⟩ | ⟨-, h2, -, -⟩ <;> omega
  have e1 : bfa (fbx i a k j) n 0 1 = nI (bfN (fun y => ff (Bt ii aa k j y) 6 1) n 0 1) := bfa_N (F := fun y => ff (Bt ii aa k j y) 6 1) n 0 1 hF (by omega)
  rw [sfd_ff, e1]
  congr 1
  by_cases hz : ∃ y, 0 ≤ y ∧ y < 0 + n ∧ ff (Bt ii aa k j y) 6 1 = 0
  · rw [bfN_0 n 0 1 hz]
    obtain ⟨y, -, y2, y3⟩ := hz
    exact ff_0 (by omega) (fun u u1 u2 z => z ⟨y, by omega, (lf_F (by omega)).mpr (Or.inl y3)⟩)
  · obtain ⟨h1, h2, h3⟩ := bfN_m (F := fun y => ff (Bt ii aa k j y) 6 1) n 0 1 (fun y y1 y2 z => hz ⟨y, y1, y2, z⟩)
    have h6 : bfN (fun y => ff (Bt ii aa k j y) 6 1) n 0 1 ≤ 6 := by
      rcases h3 with h3 | ⟨y, y1, y2, y3⟩
      · omega
      · have := (hF y y1 y2).2
        omega
    refine ff_u h1 (by omega) ?_ (fun u u1 u2 z => ?_)
    · rintro ⟨m, m1, m2⟩
      have m3 := h2 m (by omega) (by omega)
      rcases (lf_F (by omega)).mp m2 with z | z
      · exact hz ⟨m, by omega, by omega, z⟩
      · omega
    · rcases h3 with h3 | ⟨y, y1, y2, y3⟩
      · omega
      · exact z ⟨y, by omega, (lf_F (by omega)).mpr (Or.inr (by omega))⟩
end BarEq
