theorem cl_n (v : Int32) : ∃ n : Nat, n ≤ 12 ∧ clm v = nI n ∧ clr v = nI n := by
  by_cases h0 : v < 0
  · have h1 : v < 12 := Int32.lt_trans h0 (by decide)
    have h2 : ¬ (0 : Int32) < v := fun z => Int32.lt_irrefl (Int32.lt_trans h0 z)
    refine ⟨0, by omega, ?_, ?_⟩
    · unfold clm; rw [if_pos h1, if_neg h2]; rfl
    · unfold clr; rw [if_pos h0]; rfl
  · by_cases h1 : (12 : Int32) < v
    · have h2 : ¬ v < 12 := fun z => Int32.lt_irrefl (Int32.lt_trans h1 z)
      refine ⟨12, by omega, ?_, ?_⟩
      · unfold clm; rw [if_neg h2, if_pos (by decide)]; rfl
      · unfold clr; rw [if_neg h0, if_pos h1]; rfl
    · obtain ⟨j, hj, rfl⟩ := nI_of2 (M := 12) (n := 12) (by decide) h0 (Int32.not_lt.mp h1)
      refine ⟨j, hj, ?_, ?_⟩
      · unfold clm
        by_cases h2 : nI j < 12
        · rw [if_pos h2]
          by_cases h3 : (0 : Int32) < nI j
          · rw [if_pos h3]
          · rw [if_neg h3]
            have : j = 0 := by
              rcases Nat.eq_zero_or_pos j with z | z
              · exact z
              · exact absurd (nI_lt (a := 0) z (by omega)) h3
            rw [this]; rfl
        · rw [if_neg h2, if_pos (by decide)]
          have : j = 12 := by
            rcases Nat.lt_or_ge j 12 with z | z
            · exact absurd (nI_lt (b := 12) z (by omega)) h2
            · omega
          rw [this]; rfl
      · unfold clr; rw [if_neg h0, if_neg h1]
section Start
variable {l : Launch} {D : va_G} {t : ty4} {b L : Nat} {xs : Nat → Int32} {h : va_W} {d mc ms : Nat}
/-- the first int of the script, or 0 -/
def c0 (L : Nat) (xs : Nat → Int32) : Int32 := if 0 < L then xs 0 else 0
theorem w_cell0 (hL : L < 2 ^ 31) : MC (En l D t b L xs) ML_cell d [.ref b, .int (nI 0)] h mc ms (rt (some (.int (c0 L xs))) h mc ms) := by
  show MW _ _ _ 0 [some (.ref b), some (.int (nI 0))] [] _ _ _ _
  refine MW.iload_n dL_cell_0 rfl ?_
  refine MW.aload_n dL_cell_1 rfl ?_
  refine MW.slen (E := En l D t b L xs) dL_cell_2 ?_
  refine MW.icmp_ge 12 dL_cell_3 (by decide) (fun hc => ?_) (fun hc => ?_)
  · have h0 : L = 0 := by
      rcases Nat.eq_zero_or_pos L with z | z
      · exact z
      · exact absurd hc (show ¬ nI L ≤ nI 0 from nI_ge z hL)
    refine MW.iconst (v := 0) dL_cell_12 (by decide) ?_
    exact MW.ireturn dL_cell_13 rfl rfl (rt_e (by unfold c0; rw [if_neg (by omega)]))
  · have h0 : 0 < L := by
      rcases Nat.eq_zero_or_pos L with z | z
      · subst z; exact absurd (show Int32.ofNat 0 ≤ nI 0 by decide) hc
      · exact z
    refine MW.aload_n dL_cell_6 rfl ?_
    refine MW.iload_n dL_cell_7 rfl ?_
    refine MW.sj dL_cell_8 h0 hL ?_
    refine MW.goto 13 dL_cell_9 (by decide) ?_
    exact MW.ireturn dL_cell_13 rfl rfl (rt_e (by unfold c0; rw [if_pos h0]))
def qf (r : List Nat) : Nat → Nat := fun x => r.getD x 0
def hi0 : Nat → Int32 := (upd (upd (upd (upd (upd (upd (upd (upd (upd (upd (upd (upd (fun _ => 0) 0 10) 1 10) 2 10) 3 10) 4 10) 5 10) 6 10) 7 10) 8 10) 9 10) 10 10) 11 10)
def z0 : Nat → Int32 := fun _ => 0
def o0 : Nat → Int32 := fun _ => 1
def m0 : Nat → Int32 := fun _ => -1
def if0 (v : Int32) : Nat → Int32 := fun x => [0, 0, clm v, 0, 0, 10, 10000, 10000, -1, -1, 0, 0, clr v, 0, 10, 10000, 10000, 0, 0, 0, 0, 0, 0].getD x 0
def af0 : Nat → Nat → Int32 := fun m => [tn 12, z0, o0, z0, z0, o0, o0, m0, z0, z0, hi0, z0, z0, z0, z0, z0, z0, z0, z0, z0].getD m z0
theorem row_eq {r0 r1 r2 r3 r4 r5 r6 r7 r8 r9 r10 r11 r12 r13 r14 r15 r16 r17 r18 r19 r20 r21 r22 r23 r24 r25 r26 r27 r28 r29 : Nat} : (va_up (va_up (va_up (va_up (va_up (va_up (va_up (va_up (fun _ => none) 0 (some r6)) 1 (some r7)) 2 (some r8)) 3 (some r9)) 4 (some r10)) 5 (some r11)) 6 (some r12)) 7 (some r13)) = fun j => if j < 8 then some (qf [r0, r1, r2, r3, r4, r5, r6, r7, r8, r9, r10, r11, r12, r13, r14, r15, r16, r17, r18, r19, r20, r21, r22, r23, r24, r25, r26, r27, r28, r29] (6 + j)) else none := by
  funext j
  match j with
  | 0 => rfl
  | 1 => rfl
  | 2 => rfl
  | 3 => rfl
  | 4 => rfl
  | 5 => rfl
  | 6 => rfl
  | 7 => rfl
  | j + 8 => simp [va_up]
theorem out_eq : (fun _ => 0 : Nat → Int64) = fun j => if j = 0 then 0 else 0 := by
  funext j
  split <;> rfl
theorem Rel_0 {v : Int32} : ∃ n, Rel (if0 v) af0 n 0 0 := by
  obtain ⟨n, hn, e1, e2⟩ := cl_n v
  refine ⟨n, ⟨hn, by omega, by omega⟩, ⟨e1, rfl, rfl, e2, rfl, rfl⟩, ⟨rfl, rfl, rfl, Or.inl rfl, Or.inl rfl⟩, ⟨0, 10, rfl, rfl, by omega, by omega, rfl, rfl, rfl, rfl⟩, ⟨10000, 10000, by omega, by omega, rfl, rfl⟩, ⟨fun m hm => ?_, fun m hm => absurd hm (by omega)⟩, ⟨fun _ => 0, fun m hm => absurd hm (by omega)⟩, ⟨fun m hm => absurd hm (by omega), fun m p hm => absurd hm (by omega)⟩, fun m hm => absurd hm (by omega), fun m _ _ => rfl, fun m hm => absurd hm (by omega)⟩
  match m, hm with
  | 0, _ => exact ⟨rfl, rfl⟩
  | 1, _ => exact ⟨rfl, rfl⟩
  | 2, _ => exact ⟨rfl, rfl⟩
  | 3, _ => exact ⟨rfl, rfl⟩
  | 4, _ => exact ⟨rfl, rfl⟩
  | 5, _ => exact ⟨rfl, rfl⟩
  | 6, _ => exact ⟨rfl, rfl⟩
  | 7, _ => exact ⟨rfl, rfl⟩
  | 8, _ => exact ⟨rfl, rfl⟩
  | 9, _ => exact ⟨rfl, rfl⟩
  | 10, _ => exact ⟨rfl, rfl⟩
  | 11, _ => exact ⟨rfl, rfl⟩
  | m + 12, hm => exact absurd hm (by omega)
set_option maxHeartbeats 4000000 in
theorem L_start (hL : L ≤ 3073) : MW (En l D t b L xs) ML_law 22 0 [some (.ref b), none, none, none, none, none, none] [] [] 0 0 Q1 := by
  have hL31 : L < 2 ^ 31 := by omega
  have hCC : 4000 ≤ mi_CC := by decide
  have hCS : 30000 ≤ mi_CS := by decide
  refine MW.heap (h' := ([] : va_W) ++ []) rfl ?_
  refine MW.new fL_law_0 (by omega) (by omega) (fun r0 => ?_)
  refine MW.heap (h' := ([] : va_W) ++ [(r0, .inr (5, [.null, .null, .null, .int 0, .int 0]))]) (List.append_assoc ..) ?_
  refine MW.dup dL_law_3 rfl ?_
  refine MW.aload_n dL_law_4 rfl ?_
  refine MW.iconst (v := nI 0) dL_law_5 (by decide) ?_
  refine MW.callS1 fL_law_6 (w_cell0 (d := 21) hL31) rfl rfl rfl rfl (Nat.le_of_ble_eq_true rfl) ?_
  refine MW.heap (ap_back (h0 := []) (tl := []) (x := (r0, .inr (5, [.null, .null, .null, .int 0, .int 0])))) ?_
  refine MW.callK fL_law_9 (k_truck (d := 18) (h0 := (([] : va_W) ++ [])) (by omega) (by omega)) rfl rfl rfl rfl (Nat.le_of_ble_eq_true rfl) (fun h' ⟨r1, r2, r3, r4, r5, r6, r7, r8, r9, r10, r11, r12, r13, r14, r15, r16, r17, e⟩ => ?_)
  subst e
  refine MW.heap (h' := ([] : va_W) ++ [(r0, .inr (5, [.ref r1, .ref r14, .ref r16, .int 0, .int 0])), (r1, .inr (1, [.int (clm (c0 L xs)), .ref r2, .ref r3, .ref r4, .ref r5, .int 0])), (r2, .inl (t.1, 12, .inl (tn 12))), (r3, .inl (t.2.1, 12, .inl (fun _ => 0))), (r4, .inl (t.2.2.1, 8, .inr (.inr (.inr (.inr (va_up (va_up (va_up (va_up (va_up (va_up (va_up (va_up (fun _ => none) 0 (some r6)) 1 (some r7)) 2 (some r8)) 3 (some r9)) 4 (some r10)) 5 (some r11)) 6 (some r12)) 7 (some r13))))))), (r5, .inr (0, [.int 0, .int 10, .int 10000, .int 10000])), (r6, .inr (2, [.int 1, .int 0, .int 0, .int 1, .int 1, .int (-1)])), (r7, .inr (2, [.int 1, .int 0, .int 0, .int 1, .int 1, .int (-1)])), (r8, .inr (2, [.int 1, .int 0, .int 0, .int 1, .int 1, .int (-1)])), (r9, .inr (2, [.int 1, .int 0, .int 0, .int 1, .int 1, .int (-1)])), (r10, .inr (2, [.int 1, .int 0, .int 0, .int 1, .int 1, .int (-1)])), (r11, .inr (2, [.int 1, .int 0, .int 0, .int 1, .int 1, .int (-1)])), (r12, .inr (2, [.int 1, .int 0, .int 0, .int 1, .int 1, .int (-1)])), (r13, .inr (2, [.int 1, .int 0, .int 0, .int 1, .int 1, .int (-1)])), (r14, .inr (4, [.ref r15, .int (-1), .int (-1)])), (r15, .inl (t.1, 5, .inl (fun _ => 0))), (r16, .inr (3, [.ref r17, .int 0, .int 0])), (r17, .inl (t.1, 10, .inl (fun _ => 0)))]) (List.append_assoc ..) ?_
  refine MW.astore_n dL_law_12 rfl rfl ?_
  refine MW.new fL_law_13 (by omega) (by omega) (fun r18 => ?_)
  refine MW.heap (h' := ([] : va_W) ++ [(r0, .inr (5, [.ref r1, .ref r14, .ref r16, .int 0, .int 0])), (r1, .inr (1, [.int (clm (c0 L xs)), .ref r2, .ref r3, .ref r4, .ref r5, .int 0])), (r2, .inl (t.1, 12, .inl (tn 12))), (r3, .inl (t.2.1, 12, .inl (fun _ => 0))), (r4, .inl (t.2.2.1, 8, .inr (.inr (.inr (.inr (va_up (va_up (va_up (va_up (va_up (va_up (va_up (va_up (fun _ => none) 0 (some r6)) 1 (some r7)) 2 (some r8)) 3 (some r9)) 4 (some r10)) 5 (some r11)) 6 (some r12)) 7 (some r13))))))), (r5, .inr (0, [.int 0, .int 10, .int 10000, .int 10000])), (r6, .inr (2, [.int 1, .int 0, .int 0, .int 1, .int 1, .int (-1)])), (r7, .inr (2, [.int 1, .int 0, .int 0, .int 1, .int 1, .int (-1)])), (r8, .inr (2, [.int 1, .int 0, .int 0, .int 1, .int 1, .int (-1)])), (r9, .inr (2, [.int 1, .int 0, .int 0, .int 1, .int 1, .int (-1)])), (r10, .inr (2, [.int 1, .int 0, .int 0, .int 1, .int 1, .int (-1)])), (r11, .inr (2, [.int 1, .int 0, .int 0, .int 1, .int 1, .int (-1)])), (r12, .inr (2, [.int 1, .int 0, .int 0, .int 1, .int 1, .int (-1)])), (r13, .inr (2, [.int 1, .int 0, .int 0, .int 1, .int 1, .int (-1)])), (r14, .inr (4, [.ref r15, .int (-1), .int (-1)])), (r15, .inl (t.1, 5, .inl (fun _ => 0))), (r16, .inr (3, [.ref r17, .int 0, .int 0])), (r17, .inl (t.1, 10, .inl (fun _ => 0))), (r18, .inr (6, [.int 0, .null, .null, .int 0, .int 0, .int 0, .int 0, .int 0, .int 0, .null, .null, .null, .null, .null, .null, .null, .int 0, .int 0, .int 0, .int 0, .null]))]) (List.append_assoc ..) ?_
  refine MW.dup dL_law_16 rfl ?_
  refine MW.aload_n dL_law_17 rfl ?_
  refine MW.iconst (v := nI 0) dL_law_18 (by decide) ?_
  refine MW.callS1 fL_law_19 (w_cell0 (d := 21) hL31) rfl rfl rfl rfl (Nat.le_of_ble_eq_true rfl) ?_
  refine MW.heap (ap_back (h0 := []) (tl := [(r0, .inr (5, [.ref r1, .ref r14, .ref r16, .int 0, .int 0])), (r1, .inr (1, [.int (clm (c0 L xs)), .ref r2, .ref r3, .ref r4, .ref r5, .int 0])), (r2, .inl (t.1, 12, .inl (tn 12))), (r3, .inl (t.2.1, 12, .inl (fun _ => 0))), (r4, .inl (t.2.2.1, 8, .inr (.inr (.inr (.inr (va_up (va_up (va_up (va_up (va_up (va_up (va_up (va_up (fun _ => none) 0 (some r6)) 1 (some r7)) 2 (some r8)) 3 (some r9)) 4 (some r10)) 5 (some r11)) 6 (some r12)) 7 (some r13))))))), (r5, .inr (0, [.int 0, .int 10, .int 10000, .int 10000])), (r6, .inr (2, [.int 1, .int 0, .int 0, .int 1, .int 1, .int (-1)])), (r7, .inr (2, [.int 1, .int 0, .int 0, .int 1, .int 1, .int (-1)])), (r8, .inr (2, [.int 1, .int 0, .int 0, .int 1, .int 1, .int (-1)])), (r9, .inr (2, [.int 1, .int 0, .int 0, .int 1, .int 1, .int (-1)])), (r10, .inr (2, [.int 1, .int 0, .int 0, .int 1, .int 1, .int (-1)])), (r11, .inr (2, [.int 1, .int 0, .int 0, .int 1, .int 1, .int (-1)])), (r12, .inr (2, [.int 1, .int 0, .int 0, .int 1, .int 1, .int (-1)])), (r13, .inr (2, [.int 1, .int 0, .int 0, .int 1, .int 1, .int (-1)])), (r14, .inr (4, [.ref r15, .int (-1), .int (-1)])), (r15, .inl (t.1, 5, .inl (fun _ => 0))), (r16, .inr (3, [.ref r17, .int 0, .int 0])), (r17, .inl (t.1, 10, .inl (fun _ => 0)))]) (x := (r18, .inr (6, [.int 0, .null, .null, .int 0, .int 0, .int 0, .int 0, .int 0, .int 0, .null, .null, .null, .null, .null, .null, .null, .int 0, .int 0, .int 0, .int 0, .null])))) ?_
  refine MW.callK fL_law_22 (MC.up (show 1 ≤ 21 by omega) (k_model (d := 0) (h0 := (([] : va_W) ++ [(r0, .inr (5, [.ref r1, .ref r14, .ref r16, .int 0, .int 0])), (r1, .inr (1, [.int (clm (c0 L xs)), .ref r2, .ref r3, .ref r4, .ref r5, .int 0])), (r2, .inl (t.1, 12, .inl (tn 12))), (r3, .inl (t.2.1, 12, .inl (fun _ => 0))), (r4, .inl (t.2.2.1, 8, .inr (.inr (.inr (.inr (va_up (va_up (va_up (va_up (va_up (va_up (va_up (va_up (fun _ => none) 0 (some r6)) 1 (some r7)) 2 (some r8)) 3 (some r9)) 4 (some r10)) 5 (some r11)) 6 (some r12)) 7 (some r13))))))), (r5, .inr (0, [.int 0, .int 10, .int 10000, .int 10000])), (r6, .inr (2, [.int 1, .int 0, .int 0, .int 1, .int 1, .int (-1)])), (r7, .inr (2, [.int 1, .int 0, .int 0, .int 1, .int 1, .int (-1)])), (r8, .inr (2, [.int 1, .int 0, .int 0, .int 1, .int 1, .int (-1)])), (r9, .inr (2, [.int 1, .int 0, .int 0, .int 1, .int 1, .int (-1)])), (r10, .inr (2, [.int 1, .int 0, .int 0, .int 1, .int 1, .int (-1)])), (r11, .inr (2, [.int 1, .int 0, .int 0, .int 1, .int 1, .int (-1)])), (r12, .inr (2, [.int 1, .int 0, .int 0, .int 1, .int 1, .int (-1)])), (r13, .inr (2, [.int 1, .int 0, .int 0, .int 1, .int 1, .int (-1)])), (r14, .inr (4, [.ref r15, .int (-1), .int (-1)])), (r15, .inl (t.1, 5, .inl (fun _ => 0))), (r16, .inr (3, [.ref r17, .int 0, .int 0])), (r17, .inl (t.1, 10, .inl (fun _ => 0)))])) (by omega) (by omega))) rfl rfl rfl rfl (Nat.le_of_ble_eq_true rfl) (fun h' ⟨r19, r20, r21, r22, r23, r24, r25, r26, r27, r28, e⟩ => ?_)
  subst e
  refine MW.heap (h' := ([] : va_W) ++ [(r0, .inr (5, [.ref r1, .ref r14, .ref r16, .int 0, .int 0])), (r1, .inr (1, [.int (clm (c0 L xs)), .ref r2, .ref r3, .ref r4, .ref r5, .int 0])), (r2, .inl (t.1, 12, .inl (tn 12))), (r3, .inl (t.2.1, 12, .inl (fun _ => 0))), (r4, .inl (t.2.2.1, 8, .inr (.inr (.inr (.inr (va_up (va_up (va_up (va_up (va_up (va_up (va_up (va_up (fun _ => none) 0 (some r6)) 1 (some r7)) 2 (some r8)) 3 (some r9)) 4 (some r10)) 5 (some r11)) 6 (some r12)) 7 (some r13))))))), (r5, .inr (0, [.int 0, .int 10, .int 10000, .int 10000])), (r6, .inr (2, [.int 1, .int 0, .int 0, .int 1, .int 1, .int (-1)])), (r7, .inr (2, [.int 1, .int 0, .int 0, .int 1, .int 1, .int (-1)])), (r8, .inr (2, [.int 1, .int 0, .int 0, .int 1, .int 1, .int (-1)])), (r9, .inr (2, [.int 1, .int 0, .int 0, .int 1, .int 1, .int (-1)])), (r10, .inr (2, [.int 1, .int 0, .int 0, .int 1, .int 1, .int (-1)])), (r11, .inr (2, [.int 1, .int 0, .int 0, .int 1, .int 1, .int (-1)])), (r12, .inr (2, [.int 1, .int 0, .int 0, .int 1, .int 1, .int (-1)])), (r13, .inr (2, [.int 1, .int 0, .int 0, .int 1, .int 1, .int (-1)])), (r14, .inr (4, [.ref r15, .int (-1), .int (-1)])), (r15, .inl (t.1, 5, .inl (fun _ => 0))), (r16, .inr (3, [.ref r17, .int 0, .int 0])), (r17, .inl (t.1, 10, .inl (fun _ => 0))), (r18, .inr (6, [.int (clr (c0 L xs)), .ref r19, .ref r20, .int 0, .int 10, .int 10000, .int 10000, .int 0, .int 0, .ref r21, .ref r22, .ref r23, .ref r24, .ref r25, .ref r26, .ref r27, .int 0, .int 0, .int 0, .int 0, .ref r28])), (r19, .inl (t.1, 12, .inl (upd (upd (upd (upd (upd (upd (upd (upd (upd (upd (upd (upd (fun _ => 0) 0 10) 1 10) 2 10) 3 10) 4 10) 5 10) 6 10) 7 10) 8 10) 9 10) 10 10) 11 10))), (r20, .inl (t.2.1, 12, .inl (fun _ => 0))), (r21, .inl (t.1, 8, .inl (fun _ => 0))), (r22, .inl (t.2.1, 8, .inl (fun _ => 0))), (r23, .inl (t.2.1, 8, .inl (fun _ => 0))), (r24, .inl (t.1, 8, .inl (fun _ => 0))), (r25, .inl (t.1, 8, .inl (fun _ => 0))), (r26, .inl (t.1, 8, .inl (fun _ => 0))), (r27, .inl (t.1, 8, .inl (fun _ => 0))), (r28, .inl (t.1, 10, .inl (fun _ => 0)))]) (List.append_assoc ..) ?_
  refine MW.astore_n dL_law_25 rfl rfl ?_
  refine MW.iconst (v := 1) dL_law_26 (by decide) ?_
  refine MW.newaj (atype := .long) (N := 1) (a0 := (1, .inr (.inl (fun _ => 0)))) dL_law_27 wa_long rfl 3 rfl (fun _ => rfl) (by decide) rfl (by decide) (by omega) (by omega) (fun r29 => ?_)
  refine MW.heap (h' := ([] : va_W) ++ [(r0, .inr (5, [.ref r1, .ref r14, .ref r16, .int 0, .int 0])), (r1, .inr (1, [.int (clm (c0 L xs)), .ref r2, .ref r3, .ref r4, .ref r5, .int 0])), (r2, .inl (t.1, 12, .inl (tn 12))), (r3, .inl (t.2.1, 12, .inl (fun _ => 0))), (r4, .inl (t.2.2.1, 8, .inr (.inr (.inr (.inr (va_up (va_up (va_up (va_up (va_up (va_up (va_up (va_up (fun _ => none) 0 (some r6)) 1 (some r7)) 2 (some r8)) 3 (some r9)) 4 (some r10)) 5 (some r11)) 6 (some r12)) 7 (some r13))))))), (r5, .inr (0, [.int 0, .int 10, .int 10000, .int 10000])), (r6, .inr (2, [.int 1, .int 0, .int 0, .int 1, .int 1, .int (-1)])), (r7, .inr (2, [.int 1, .int 0, .int 0, .int 1, .int 1, .int (-1)])), (r8, .inr (2, [.int 1, .int 0, .int 0, .int 1, .int 1, .int (-1)])), (r9, .inr (2, [.int 1, .int 0, .int 0, .int 1, .int 1, .int (-1)])), (r10, .inr (2, [.int 1, .int 0, .int 0, .int 1, .int 1, .int (-1)])), (r11, .inr (2, [.int 1, .int 0, .int 0, .int 1, .int 1, .int (-1)])), (r12, .inr (2, [.int 1, .int 0, .int 0, .int 1, .int 1, .int (-1)])), (r13, .inr (2, [.int 1, .int 0, .int 0, .int 1, .int 1, .int (-1)])), (r14, .inr (4, [.ref r15, .int (-1), .int (-1)])), (r15, .inl (t.1, 5, .inl (fun _ => 0))), (r16, .inr (3, [.ref r17, .int 0, .int 0])), (r17, .inl (t.1, 10, .inl (fun _ => 0))), (r18, .inr (6, [.int (clr (c0 L xs)), .ref r19, .ref r20, .int 0, .int 10, .int 10000, .int 10000, .int 0, .int 0, .ref r21, .ref r22, .ref r23, .ref r24, .ref r25, .ref r26, .ref r27, .int 0, .int 0, .int 0, .int 0, .ref r28])), (r19, .inl (t.1, 12, .inl (upd (upd (upd (upd (upd (upd (upd (upd (upd (upd (upd (upd (fun _ => 0) 0 10) 1 10) 2 10) 3 10) 4 10) 5 10) 6 10) 7 10) 8 10) 9 10) 10 10) 11 10))), (r20, .inl (t.2.1, 12, .inl (fun _ => 0))), (r21, .inl (t.1, 8, .inl (fun _ => 0))), (r22, .inl (t.2.1, 8, .inl (fun _ => 0))), (r23, .inl (t.2.1, 8, .inl (fun _ => 0))), (r24, .inl (t.1, 8, .inl (fun _ => 0))), (r25, .inl (t.1, 8, .inl (fun _ => 0))), (r26, .inl (t.1, 8, .inl (fun _ => 0))), (r27, .inl (t.1, 8, .inl (fun _ => 0))), (r28, .inl (t.1, 10, .inl (fun _ => 0))), (r29, .inl (t.2.2.2, 1, .inr (.inl (fun _ => 0))))]) (List.append_assoc ..) ?_
  refine MW.astore_n dL_law_29 rfl rfl ?_
  refine MW.iconst (v := nI 1) dL_law_30 (by decide) ?_
  refine MW.istore dL_law_31 rfl rfl ?_
  obtain ⟨n, hR⟩ := Rel_0 (v := c0 L xs)
  refine MW.heap (h' := hw t (qf [r0, r1, r2, r3, r4, r5, r6, r7, r8, r9, r10, r11, r12, r13, r14, r15, r16, r17, r18, r19, r20, r21, r22, r23, r24, r25, r26, r27, r28, r29]) (if0 (c0 L xs)) af0 0) (by rw [row_eq (r0 := r0) (r1 := r1) (r2 := r2) (r3 := r3) (r4 := r4) (r5 := r5) (r14 := r14) (r15 := r15) (r16 := r16) (r17 := r17) (r18 := r18) (r19 := r19) (r20 := r20) (r21 := r21) (r22 := r22) (r23 := r23) (r24 := r24) (r25 := r25) (r26 := r26) (r27 := r27) (r28 := r28) (r29 := r29), out_eq]; rfl) ?_
  exact L_loop (q := qf [r0, r1, r2, r3, r4, r5, r6, r7, r8, r9, r10, r11, r12, r13, r14, r15, r16, r17, r18, r19, r20, r21, r22, r23, r24, r25, r26, r27, r28, r29]) hL (L + 1) 1 _ _ _ 0 0 _ _ none none (by omega) (by omega) hR (by omega) (by omega)
end Start
