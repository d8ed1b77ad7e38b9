/-- a truth as a long -/
def bL (v : Int32) : Int64 := if v = 0 then 0 else 1
theorem wl_13 : Cond.classLink RL 13 (mi_exn 5) ∈ mi_T := mi_in 222 (by decide +kernel) rfl
theorem wl_15 : Cond.classLink RL 15 (mi_exn 1) ∈ mi_T := mi_in 223 (by decide +kernel) rfl
theorem wl_17 : Cond.classLink RL 17 (mi_exn 2) ∈ mi_T := mi_in 224 (by decide +kernel) rfl
theorem wl_27 : Cond.classLink RL 27 (mi_exn 3) ∈ mi_T := mi_in 360 (by decide +kernel) rfl
theorem wl_37 : Cond.classLink RL 37 (mi_exn 0) ∈ mi_T := mi_in 486 (by decide +kernel) rfl
theorem wl_45 : Cond.classLink RL 45 (mi_exn 4) ∈ mi_T := mi_in 532 (by decide +kernel) rfl
theorem wc_0 : Cond.castable (mi_exn 0) (mi_exn 0) ∈ mi_T := mi_in 497 (by decide +kernel) rfl
theorem wc_1 : Cond.castable (mi_exn 1) (mi_exn 1) ∈ mi_T := mi_in 311 (by decide +kernel) rfl
theorem wc_2 : Cond.castable (mi_exn 2) (mi_exn 2) ∈ mi_T := mi_in 331 (by decide +kernel) rfl
theorem wc_3 : Cond.castable (mi_exn 3) (mi_exn 3) ∈ mi_T := mi_in 372 (by decide +kernel) rfl
theorem wc_4 : Cond.castable (mi_exn 4) (mi_exn 4) ∈ mi_T := mi_in 539 (by decide +kernel) rfl
theorem wc_5 : Cond.castable (mi_exn 5) (mi_exn 5) ∈ mi_T := mi_in 232 (by decide +kernel) rfl
theorem hw_o {t : ty4} {q : Nat → Nat} {i : Nat → Int32} {a : Nat → Nat → Int32} {w x : Int64} : (hw t q i a w).set 29 (q 29, .inl (t.2.2.2, 1, .inr (.inl (vp_updL (fun j => if j = 0 then w else 0) (0 : Int32).toNatClampNeg x)))) = hw t q i a x := by
  have e : vp_updL (fun j => if j = 0 then w else 0) (0 : Int32).toNatClampNeg x = fun j => if j = 0 then x else 0 := by
    funext j
    by_cases h : j = 0
    · subst h; rfl
    · simp [vp_updL, h]
  rw [e]
  rfl
section Wrap
variable {l : Launch} {D : va_G} {t : ty4} {b L : Nat} {xs : Nat → Int32} {q : Nat → Nat} {i : Nat → Int32} {a : Nat → Nat → Int32} {w : Int64} {d mc ms : Nat}
variable {i' : Nat → Int32} {a' : Nat → Nat → Int32}
theorem wa_cell__5 : mi_Ca ML_cell_ 4 5 10 := ⟨[], [(0, 7, 14, 15), (0, 7, 18, 17)], (0, 7, 10, 13), mi_exn 5, rfl, fun _ h => absurd h List.not_mem_nil, by decide, by decide, wl_13, wc_5, rfl⟩
set_option maxHeartbeats 1000000 in
theorem w_cell__5 {p0 p1 p2 : Int32} (hcall : MC (En l D t b L xs) MX5_cell 20 [.ref (q 0), .int p0, .int p1, .int p2] (hw t q i a w) mc ms (xt 5 (hw t q i a w) mc ms)) : MC (En l D t b L xs) ML_cell_ 21 [.ref (q 0), .int p0, .int p1, .int p2] (hw t q i a w) mc ms (rt (some (.int 1)) (hw t q i a w) (mc + 1) (ms + 6)) := by
  show MW _ _ _ 0 [some (.ref (q 0)), some (.int p0), some (.int p1), some (.int p2), none] [] _ _ _ _
  refine MW.aload_n dL_cell__0 rfl ?_
  refine MW.iload_n dL_cell__1 rfl ?_
  refine MW.iload_n dL_cell__2 rfl ?_
  refine MW.iload_n dL_cell__3 rfl ?_
  refine MW.thrVc fL_cell__4 0 rfl hcall rfl rfl rfl rfl (Nat.le_of_ble_eq_true rfl) wa_cell__5 (fun r => ?_)
  refine MW.astore dL_cell__10 rfl rfl ?_
  refine MW.iconst (v := 1) dL_cell__12 (by decide) ?_
  exact MW.ireturn dL_cell__13 rfl (rfl) rt_r
theorem wa_cell__1 : mi_Ca ML_cell_ 4 1 14 := ⟨[(0, 7, 10, 13)], [(0, 7, 18, 17)], (0, 7, 14, 15), mi_exn 1, rfl, List.forall_mem_cons.mpr ⟨⟨by decide, by decide, mi_exn 5, wl_13, by decide +kernel⟩, fun _ h => absurd h List.not_mem_nil⟩, by decide, by decide, wl_15, wc_1, rfl⟩
set_option maxHeartbeats 1000000 in
theorem w_cell__1 {p0 p1 p2 : Int32} (hcall : MC (En l D t b L xs) MX5_cell 20 [.ref (q 0), .int p0, .int p1, .int p2] (hw t q i a w) mc ms (xt 1 (hw t q i a w) mc ms)) : MC (En l D t b L xs) ML_cell_ 21 [.ref (q 0), .int p0, .int p1, .int p2] (hw t q i a w) mc ms (rt (some (.int 2)) (hw t q i a w) (mc + 1) (ms + 6)) := by
  show MW _ _ _ 0 [some (.ref (q 0)), some (.int p0), some (.int p1), some (.int p2), none] [] _ _ _ _
  refine MW.aload_n dL_cell__0 rfl ?_
  refine MW.iload_n dL_cell__1 rfl ?_
  refine MW.iload_n dL_cell__2 rfl ?_
  refine MW.iload_n dL_cell__3 rfl ?_
  refine MW.thrVc fL_cell__4 0 rfl hcall rfl rfl rfl rfl (Nat.le_of_ble_eq_true rfl) wa_cell__1 (fun r => ?_)
  refine MW.astore dL_cell__14 rfl rfl ?_
  refine MW.iconst (v := 2) dL_cell__16 (by decide) ?_
  exact MW.ireturn dL_cell__17 rfl (rfl) rt_r
theorem wa_cell__2 : mi_Ca ML_cell_ 4 2 18 := ⟨[(0, 7, 10, 13), (0, 7, 14, 15)], [], (0, 7, 18, 17), mi_exn 2, rfl, List.forall_mem_cons.mpr ⟨⟨by decide, by decide, mi_exn 5, wl_13, by decide +kernel⟩, List.forall_mem_cons.mpr ⟨⟨by decide, by decide, mi_exn 1, wl_15, by decide +kernel⟩, fun _ h => absurd h List.not_mem_nil⟩⟩, by decide, by decide, wl_17, wc_2, rfl⟩
set_option maxHeartbeats 1000000 in
theorem w_cell__2 {p0 p1 p2 : Int32} (hcall : MC (En l D t b L xs) MX5_cell 20 [.ref (q 0), .int p0, .int p1, .int p2] (hw t q i a w) mc ms (xt 2 (hw t q i a w) mc ms)) : MC (En l D t b L xs) ML_cell_ 21 [.ref (q 0), .int p0, .int p1, .int p2] (hw t q i a w) mc ms (rt (some (.int 3)) (hw t q i a w) (mc + 1) (ms + 6)) := by
  show MW _ _ _ 0 [some (.ref (q 0)), some (.int p0), some (.int p1), some (.int p2), none] [] _ _ _ _
  refine MW.aload_n dL_cell__0 rfl ?_
  refine MW.iload_n dL_cell__1 rfl ?_
  refine MW.iload_n dL_cell__2 rfl ?_
  refine MW.iload_n dL_cell__3 rfl ?_
  refine MW.thrVc fL_cell__4 0 rfl hcall rfl rfl rfl rfl (Nat.le_of_ble_eq_true rfl) wa_cell__2 (fun r => ?_)
  refine MW.astore dL_cell__18 rfl rfl ?_
  refine MW.iconst (v := 3) dL_cell__20 (by decide) ?_
  exact MW.ireturn dL_cell__21 rfl (rfl) rt_r
set_option maxHeartbeats 1000000 in
theorem w_cell__r {p0 p1 p2 : Int32}  (hcall : MC (En l D t b L xs) MX5_cell 20 [.ref (q 0), .int p0, .int p1, .int p2] (hw t q i a w) mc ms (rt none (hw t q i' a' w) mc ms)) : MC (En l D t b L xs) ML_cell_ 21 [.ref (q 0), .int p0, .int p1, .int p2] (hw t q i a w) mc ms (rt (some (.int 0)) (hw t q i' a' w) mc ms) := by
  show MW _ _ _ 0 [some (.ref (q 0)), some (.int p0), some (.int p1), some (.int p2), none] [] _ _ _ _
  refine MW.aload_n dL_cell__0 rfl ?_
  refine MW.iload_n dL_cell__1 rfl ?_
  refine MW.iload_n dL_cell__2 rfl ?_
  refine MW.iload_n dL_cell__3 rfl ?_
  refine MW.callV0 fL_cell__4 0 rfl (hcall) rfl rfl rfl rfl (Nat.le_of_ble_eq_true rfl) ?_
  refine MW.goto 22 dL_cell__7 (by decide) ?_
  refine MW.iconst (v := 0) dL_cell__22 (by decide) ?_
  exact MW.ireturn dL_cell__23 rfl (rfl) (by first | exact rt_r | (unfold bL; first | (rw [if_pos hc7]; exact rt_r) | (rw [if_neg hc7]; exact rt_r) | (rw [if_pos hc8]; exact rt_r) | (rw [if_neg hc8]; exact rt_r)))
theorem wa_axles_1 : mi_Ca ML_axles 6 1 12 := ⟨[], [], (0, 9, 12, 15), mi_exn 1, rfl, fun _ h => absurd h List.not_mem_nil, by decide, by decide, wl_15, wc_1, rfl⟩
set_option maxHeartbeats 1000000 in
theorem w_axles_1 {p0 p1 p2 p3 : Int32} (hcall : MC (En l D t b L xs) MX5_axles 20 [.ref (q 0), .int p0, .int p1, .int p2, .int p3] (hw t q i a w) mc ms (xt 1 (hw t q i a w) mc ms)) : MC (En l D t b L xs) ML_axles 21 [.ref (q 0), .int p0, .int p1, .int p2, .int p3] (hw t q i a w) mc ms (rt (some (.int 1)) (hw t q i a w) (mc + 1) (ms + 6)) := by
  show MW _ _ _ 0 [some (.ref (q 0)), some (.int p0), some (.int p1), some (.int p2), some (.int p3), none] [] _ _ _ _
  refine MW.aload_n dL_axles_0 rfl ?_
  refine MW.iload_n dL_axles_1 rfl ?_
  refine MW.iload_n dL_axles_2 rfl ?_
  refine MW.iload_n dL_axles_3 rfl ?_
  refine MW.iload dL_axles_4 rfl ?_
  refine MW.thrVc fL_axles_6 0 rfl hcall rfl rfl rfl rfl (Nat.le_of_ble_eq_true rfl) wa_axles_1 (fun r => ?_)
  refine MW.astore dL_axles_12 rfl rfl ?_
  refine MW.iconst (v := 1) dL_axles_14 (by decide) ?_
  exact MW.ireturn dL_axles_15 rfl (rfl) rt_r
set_option maxHeartbeats 1000000 in
theorem w_axles_r {p0 p1 p2 p3 : Int32}  (hcall : MC (En l D t b L xs) MX5_axles 20 [.ref (q 0), .int p0, .int p1, .int p2, .int p3] (hw t q i a w) mc ms (rt none (hw t q i' a' w) mc ms)) : MC (En l D t b L xs) ML_axles 21 [.ref (q 0), .int p0, .int p1, .int p2, .int p3] (hw t q i a w) mc ms (rt (some (.int 0)) (hw t q i' a' w) mc ms) := by
  show MW _ _ _ 0 [some (.ref (q 0)), some (.int p0), some (.int p1), some (.int p2), some (.int p3), none] [] _ _ _ _
  refine MW.aload_n dL_axles_0 rfl ?_
  refine MW.iload_n dL_axles_1 rfl ?_
  refine MW.iload_n dL_axles_2 rfl ?_
  refine MW.iload_n dL_axles_3 rfl ?_
  refine MW.iload dL_axles_4 rfl ?_
  refine MW.callV0 fL_axles_6 0 rfl (hcall) rfl rfl rfl rfl (Nat.le_of_ble_eq_true rfl) ?_
  refine MW.goto 16 dL_axles_9 (by decide) ?_
  refine MW.iconst (v := 0) dL_axles_16 (by decide) ?_
  exact MW.ireturn dL_axles_17 rfl (rfl) (by first | exact rt_r | (unfold bL; first | (rw [if_pos hc7]; exact rt_r) | (rw [if_neg hc7]; exact rt_r) | (rw [if_pos hc8]; exact rt_r) | (rw [if_neg hc8]; exact rt_r)))
theorem wa_pallet_1 : mi_Ca ML_pallet 11 1 19 := ⟨[], [(0, 16, 23, 17), (0, 16, 27, 27)], (0, 16, 19, 15), mi_exn 1, rfl, fun _ h => absurd h List.not_mem_nil, by decide, by decide, wl_15, wc_1, rfl⟩
set_option maxHeartbeats 1000000 in
theorem w_pallet_1 {p0 p1 p2 p3 p4 : Int32} (hcall : MC (En l D t b L xs) MX5_pallet 20 [.ref (q 0), .int p0, .int p1, .int p2, .int p3, .int p4] (hw t q i a w) mc ms (xt 1 (hw t q i a w) mc ms)) : MC (En l D t b L xs) ML_pallet 21 [.ref (q 0), .int p0, .int p1, .int p2, .int p3, .int p4, .ref (q 29)] (hw t q i a w) mc ms (rt (some (.int 1)) (hw t q i a w) (mc + 1) (ms + 6)) := by
  show MW _ _ _ 0 [some (.ref (q 0)), some (.int p0), some (.int p1), some (.int p2), some (.int p3), some (.int p4), some (.ref (q 29)), none] [] _ _ _ _
  refine MW.aload dL_pallet_0 rfl ?_
  refine MW.iconst (v := 0) dL_pallet_2 (by decide) ?_
  refine MW.aload_n dL_pallet_3 rfl ?_
  refine MW.iload_n dL_pallet_4 rfl ?_
  refine MW.iload_n dL_pallet_5 rfl ?_
  refine MW.iload_n dL_pallet_6 rfl ?_
  refine MW.iload dL_pallet_7 rfl ?_
  refine MW.iload dL_pallet_9 rfl ?_
  refine MW.thrVc fL_pallet_11 0 rfl hcall rfl rfl rfl rfl (Nat.le_of_ble_eq_true rfl) wa_pallet_1 (fun r => ?_)
  refine MW.astore dL_pallet_19 rfl rfl ?_
  refine MW.iconst (v := 1) dL_pallet_21 (by decide) ?_
  exact MW.ireturn dL_pallet_22 rfl (rfl) rt_r
theorem wa_pallet_2 : mi_Ca ML_pallet 11 2 23 := ⟨[(0, 16, 19, 15)], [(0, 16, 27, 27)], (0, 16, 23, 17), mi_exn 2, rfl, List.forall_mem_cons.mpr ⟨⟨by decide, by decide, mi_exn 1, wl_15, by decide +kernel⟩, fun _ h => absurd h List.not_mem_nil⟩, by decide, by decide, wl_17, wc_2, rfl⟩
set_option maxHeartbeats 1000000 in
theorem w_pallet_2 {p0 p1 p2 p3 p4 : Int32} (hcall : MC (En l D t b L xs) MX5_pallet 20 [.ref (q 0), .int p0, .int p1, .int p2, .int p3, .int p4] (hw t q i a w) mc ms (xt 2 (hw t q i a w) mc ms)) : MC (En l D t b L xs) ML_pallet 21 [.ref (q 0), .int p0, .int p1, .int p2, .int p3, .int p4, .ref (q 29)] (hw t q i a w) mc ms (rt (some (.int 2)) (hw t q i a w) (mc + 1) (ms + 6)) := by
  show MW _ _ _ 0 [some (.ref (q 0)), some (.int p0), some (.int p1), some (.int p2), some (.int p3), some (.int p4), some (.ref (q 29)), none] [] _ _ _ _
  refine MW.aload dL_pallet_0 rfl ?_
  refine MW.iconst (v := 0) dL_pallet_2 (by decide) ?_
  refine MW.aload_n dL_pallet_3 rfl ?_
  refine MW.iload_n dL_pallet_4 rfl ?_
  refine MW.iload_n dL_pallet_5 rfl ?_
  refine MW.iload_n dL_pallet_6 rfl ?_
  refine MW.iload dL_pallet_7 rfl ?_
  refine MW.iload dL_pallet_9 rfl ?_
  refine MW.thrVc fL_pallet_11 0 rfl hcall rfl rfl rfl rfl (Nat.le_of_ble_eq_true rfl) wa_pallet_2 (fun r => ?_)
  refine MW.astore dL_pallet_23 rfl rfl ?_
  refine MW.iconst (v := 2) dL_pallet_25 (by decide) ?_
  exact MW.ireturn dL_pallet_26 rfl (rfl) rt_r
theorem wa_pallet_3 : mi_Ca ML_pallet 11 3 27 := ⟨[(0, 16, 19, 15), (0, 16, 23, 17)], [], (0, 16, 27, 27), mi_exn 3, rfl, List.forall_mem_cons.mpr ⟨⟨by decide, by decide, mi_exn 1, wl_15, by decide +kernel⟩, List.forall_mem_cons.mpr ⟨⟨by decide, by decide, mi_exn 2, wl_17, by decide +kernel⟩, fun _ h => absurd h List.not_mem_nil⟩⟩, by decide, by decide, wl_27, wc_3, rfl⟩
set_option maxHeartbeats 1000000 in
theorem w_pallet_3 {p0 p1 p2 p3 p4 : Int32} (hcall : MC (En l D t b L xs) MX5_pallet 20 [.ref (q 0), .int p0, .int p1, .int p2, .int p3, .int p4] (hw t q i a w) mc ms (xt 3 (hw t q i a w) mc ms)) : MC (En l D t b L xs) ML_pallet 21 [.ref (q 0), .int p0, .int p1, .int p2, .int p3, .int p4, .ref (q 29)] (hw t q i a w) mc ms (rt (some (.int 3)) (hw t q i a w) (mc + 1) (ms + 6)) := by
  show MW _ _ _ 0 [some (.ref (q 0)), some (.int p0), some (.int p1), some (.int p2), some (.int p3), some (.int p4), some (.ref (q 29)), none] [] _ _ _ _
  refine MW.aload dL_pallet_0 rfl ?_
  refine MW.iconst (v := 0) dL_pallet_2 (by decide) ?_
  refine MW.aload_n dL_pallet_3 rfl ?_
  refine MW.iload_n dL_pallet_4 rfl ?_
  refine MW.iload_n dL_pallet_5 rfl ?_
  refine MW.iload_n dL_pallet_6 rfl ?_
  refine MW.iload dL_pallet_7 rfl ?_
  refine MW.iload dL_pallet_9 rfl ?_
  refine MW.thrVc fL_pallet_11 0 rfl hcall rfl rfl rfl rfl (Nat.le_of_ble_eq_true rfl) wa_pallet_3 (fun r => ?_)
  refine MW.astore dL_pallet_27 rfl rfl ?_
  refine MW.iconst (v := 3) dL_pallet_29 (by decide) ?_
  exact MW.ireturn dL_pallet_30 rfl (rfl) rt_r
set_option maxHeartbeats 1000000 in
theorem w_pallet_r {p0 p1 p2 p3 p4 : Int32} {v : Int32} (hcall : MC (En l D t b L xs) MX5_pallet 20 [.ref (q 0), .int p0, .int p1, .int p2, .int p3, .int p4] (hw t q i a w) mc ms (rt (some (.int v)) (hw t q i' a' w) mc ms)) : MC (En l D t b L xs) ML_pallet 21 [.ref (q 0), .int p0, .int p1, .int p2, .int p3, .int p4, .ref (q 29)] (hw t q i a w) mc ms (rt (some (.int 0)) (hw t q i' a' v.toInt64) mc ms) := by
  show MW _ _ _ 0 [some (.ref (q 0)), some (.int p0), some (.int p1), some (.int p2), some (.int p3), some (.int p4), some (.ref (q 29)), none] [] _ _ _ _
  refine MW.aload dL_pallet_0 rfl ?_
  refine MW.iconst (v := 0) dL_pallet_2 (by decide) ?_
  refine MW.aload_n dL_pallet_3 rfl ?_
  refine MW.iload_n dL_pallet_4 rfl ?_
  refine MW.iload_n dL_pallet_5 rfl ?_
  refine MW.iload_n dL_pallet_6 rfl ?_
  refine MW.iload dL_pallet_7 rfl ?_
  refine MW.iload dL_pallet_9 rfl ?_
  refine MW.callV1 fL_pallet_11 0 rfl (hcall) rfl rfl rfl rfl (Nat.le_of_ble_eq_true rfl) ?_
  refine MW.i2l dL_pallet_14 ?_
  refine MW.last dL_pallet_15 29 3 rfl rfl (vp_in_nI (n := 0) (by omega) (by omega)) ?_
  refine MW.heap hw_o ?_
  refine MW.goto 31 dL_pallet_16 (by decide) ?_
  refine MW.iconst (v := 0) dL_pallet_31 (by decide) ?_
  exact MW.ireturn dL_pallet_32 rfl (rfl) (by first | exact rt_r | (unfold bL; first | (rw [if_pos hc7]; exact rt_r) | (rw [if_neg hc7]; exact rt_r) | (rw [if_pos hc8]; exact rt_r) | (rw [if_neg hc8]; exact rt_r)))
theorem wa_solve_1 : mi_Ca ML_solve 4 1 12 := ⟨[], [(0, 9, 15, 17)], (0, 9, 12, 15), mi_exn 1, rfl, fun _ h => absurd h List.not_mem_nil, by decide, by decide, wl_15, wc_1, rfl⟩
set_option maxHeartbeats 1000000 in
theorem w_solve_1 {p0 : Int32} (hcall : MC (En l D t b L xs) MX5_solve 20 [.ref (q 0), .int p0] (hw t q i a w) mc ms (xt 1 (hw t q i a w) mc ms)) : MC (En l D t b L xs) ML_solve 21 [.ref (q 0), .int p0, .ref (q 29)] (hw t q i a w) mc ms (rt (some (.int 1)) (hw t q i a w) (mc + 1) (ms + 6)) := by
  show MW _ _ _ 0 [some (.ref (q 0)), some (.int p0), some (.ref (q 29)), none] [] _ _ _ _
  refine MW.aload_n dL_solve_0 rfl ?_
  refine MW.iconst (v := 0) dL_solve_1 (by decide) ?_
  refine MW.aload_n dL_solve_2 rfl ?_
  refine MW.iload_n dL_solve_3 rfl ?_
  refine MW.thrVc fL_solve_4 0 rfl hcall rfl rfl rfl rfl (Nat.le_of_ble_eq_true rfl) wa_solve_1 (fun r => ?_)
  refine MW.astore_n dL_solve_12 rfl rfl ?_
  refine MW.iconst (v := 1) dL_solve_13 (by decide) ?_
  exact MW.ireturn dL_solve_14 rfl (rfl) rt_r
theorem wa_solve_2 : mi_Ca ML_solve 4 2 15 := ⟨[(0, 9, 12, 15)], [], (0, 9, 15, 17), mi_exn 2, rfl, List.forall_mem_cons.mpr ⟨⟨by decide, by decide, mi_exn 1, wl_15, by decide +kernel⟩, fun _ h => absurd h List.not_mem_nil⟩, by decide, by decide, wl_17, wc_2, rfl⟩
set_option maxHeartbeats 1000000 in
theorem w_solve_2 {p0 : Int32} (hcall : MC (En l D t b L xs) MX5_solve 20 [.ref (q 0), .int p0] (hw t q i a w) mc ms (xt 2 (hw t q i a w) mc ms)) : MC (En l D t b L xs) ML_solve 21 [.ref (q 0), .int p0, .ref (q 29)] (hw t q i a w) mc ms (rt (some (.int 2)) (hw t q i a w) (mc + 1) (ms + 6)) := by
  show MW _ _ _ 0 [some (.ref (q 0)), some (.int p0), some (.ref (q 29)), none] [] _ _ _ _
  refine MW.aload_n dL_solve_0 rfl ?_
  refine MW.iconst (v := 0) dL_solve_1 (by decide) ?_
  refine MW.aload_n dL_solve_2 rfl ?_
  refine MW.iload_n dL_solve_3 rfl ?_
  refine MW.thrVc fL_solve_4 0 rfl hcall rfl rfl rfl rfl (Nat.le_of_ble_eq_true rfl) wa_solve_2 (fun r => ?_)
  refine MW.astore_n dL_solve_15 rfl rfl ?_
  refine MW.iconst (v := 2) dL_solve_16 (by decide) ?_
  exact MW.ireturn dL_solve_17 rfl (rfl) rt_r
set_option maxHeartbeats 1000000 in
theorem w_solve_r {p0 : Int32} {v : Int32} (hcall : MC (En l D t b L xs) MX5_solve 20 [.ref (q 0), .int p0] (hw t q i a w) mc ms (rt (some (.int v)) (hw t q i' a' w) mc ms)) : MC (En l D t b L xs) ML_solve 21 [.ref (q 0), .int p0, .ref (q 29)] (hw t q i a w) mc ms (rt (some (.int 0)) (hw t q i' a' v.toInt64) mc ms) := by
  show MW _ _ _ 0 [some (.ref (q 0)), some (.int p0), some (.ref (q 29)), none] [] _ _ _ _
  refine MW.aload_n dL_solve_0 rfl ?_
  refine MW.iconst (v := 0) dL_solve_1 (by decide) ?_
  refine MW.aload_n dL_solve_2 rfl ?_
  refine MW.iload_n dL_solve_3 rfl ?_
  refine MW.callV1 fL_solve_4 0 rfl (hcall) rfl rfl rfl rfl (Nat.le_of_ble_eq_true rfl) ?_
  refine MW.i2l dL_solve_7 ?_
  refine MW.last dL_solve_8 29 3 rfl rfl (vp_in_nI (n := 0) (by omega) (by omega)) ?_
  refine MW.heap hw_o ?_
  refine MW.goto 18 dL_solve_9 (by decide) ?_
  refine MW.iconst (v := 0) dL_solve_18 (by decide) ?_
  exact MW.ireturn dL_solve_19 rfl (rfl) (by first | exact rt_r | (unfold bL; first | (rw [if_pos hc7]; exact rt_r) | (rw [if_neg hc7]; exact rt_r) | (rw [if_pos hc8]; exact rt_r) | (rw [if_neg hc8]; exact rt_r)))
theorem wa_place_0 : mi_Ca ML_place 5 0 13 := ⟨[], [(0, 10, 17, 15), (0, 10, 21, 17)], (0, 10, 13, 37), mi_exn 0, rfl, fun _ h => absurd h List.not_mem_nil, by decide, by decide, wl_37, wc_0, rfl⟩
set_option maxHeartbeats 1000000 in
theorem w_place_0 {p0 p1 : Int32} (hcall : MC (En l D t b L xs) MX5_place 20 [.ref (q 0), .int p0, .int p1] (hw t q i a w) mc ms (xt 0 (hw t q i a w) mc ms)) : MC (En l D t b L xs) ML_place 21 [.ref (q 0), .int p0, .int p1, .ref (q 29)] (hw t q i a w) mc ms (rt (some (.int 1)) (hw t q i a w) (mc + 1) (ms + 6)) := by
  show MW _ _ _ 0 [some (.ref (q 0)), some (.int p0), some (.int p1), some (.ref (q 29)), none] [] _ _ _ _
  refine MW.aload_n dL_place_0 rfl ?_
  refine MW.iconst (v := 0) dL_place_1 (by decide) ?_
  refine MW.aload_n dL_place_2 rfl ?_
  refine MW.iload_n dL_place_3 rfl ?_
  refine MW.iload_n dL_place_4 rfl ?_
  refine MW.thrVc fL_place_5 0 rfl hcall rfl rfl rfl rfl (Nat.le_of_ble_eq_true rfl) wa_place_0 (fun r => ?_)
  refine MW.astore dL_place_13 rfl rfl ?_
  refine MW.iconst (v := 1) dL_place_15 (by decide) ?_
  exact MW.ireturn dL_place_16 rfl (rfl) rt_r
theorem wa_place_1 : mi_Ca ML_place 5 1 17 := ⟨[(0, 10, 13, 37)], [(0, 10, 21, 17)], (0, 10, 17, 15), mi_exn 1, rfl, List.forall_mem_cons.mpr ⟨⟨by decide, by decide, mi_exn 0, wl_37, by decide +kernel⟩, fun _ h => absurd h List.not_mem_nil⟩, by decide, by decide, wl_15, wc_1, rfl⟩
set_option maxHeartbeats 1000000 in
theorem w_place_1 {p0 p1 : Int32} (hcall : MC (En l D t b L xs) MX5_place 20 [.ref (q 0), .int p0, .int p1] (hw t q i a w) mc ms (xt 1 (hw t q i a w) mc ms)) : MC (En l D t b L xs) ML_place 21 [.ref (q 0), .int p0, .int p1, .ref (q 29)] (hw t q i a w) mc ms (rt (some (.int 2)) (hw t q i a w) (mc + 1) (ms + 6)) := by
  show MW _ _ _ 0 [some (.ref (q 0)), some (.int p0), some (.int p1), some (.ref (q 29)), none] [] _ _ _ _
  refine MW.aload_n dL_place_0 rfl ?_
  refine MW.iconst (v := 0) dL_place_1 (by decide) ?_
  refine MW.aload_n dL_place_2 rfl ?_
  refine MW.iload_n dL_place_3 rfl ?_
  refine MW.iload_n dL_place_4 rfl ?_
  refine MW.thrVc fL_place_5 0 rfl hcall rfl rfl rfl rfl (Nat.le_of_ble_eq_true rfl) wa_place_1 (fun r => ?_)
  refine MW.astore dL_place_17 rfl rfl ?_
  refine MW.iconst (v := 2) dL_place_19 (by decide) ?_
  exact MW.ireturn dL_place_20 rfl (rfl) rt_r
theorem wa_place_2 : mi_Ca ML_place 5 2 21 := ⟨[(0, 10, 13, 37), (0, 10, 17, 15)], [], (0, 10, 21, 17), mi_exn 2, rfl, List.forall_mem_cons.mpr ⟨⟨by decide, by decide, mi_exn 0, wl_37, by decide +kernel⟩, List.forall_mem_cons.mpr ⟨⟨by decide, by decide, mi_exn 1, wl_15, by decide +kernel⟩, fun _ h => absurd h List.not_mem_nil⟩⟩, by decide, by decide, wl_17, wc_2, rfl⟩
set_option maxHeartbeats 1000000 in
theorem w_place_2 {p0 p1 : Int32} (hcall : MC (En l D t b L xs) MX5_place 20 [.ref (q 0), .int p0, .int p1] (hw t q i a w) mc ms (xt 2 (hw t q i a w) mc ms)) : MC (En l D t b L xs) ML_place 21 [.ref (q 0), .int p0, .int p1, .ref (q 29)] (hw t q i a w) mc ms (rt (some (.int 3)) (hw t q i a w) (mc + 1) (ms + 6)) := by
  show MW _ _ _ 0 [some (.ref (q 0)), some (.int p0), some (.int p1), some (.ref (q 29)), none] [] _ _ _ _
  refine MW.aload_n dL_place_0 rfl ?_
  refine MW.iconst (v := 0) dL_place_1 (by decide) ?_
  refine MW.aload_n dL_place_2 rfl ?_
  refine MW.iload_n dL_place_3 rfl ?_
  refine MW.iload_n dL_place_4 rfl ?_
  refine MW.thrVc fL_place_5 0 rfl hcall rfl rfl rfl rfl (Nat.le_of_ble_eq_true rfl) wa_place_2 (fun r => ?_)
  refine MW.astore dL_place_21 rfl rfl ?_
  refine MW.iconst (v := 3) dL_place_23 (by decide) ?_
  exact MW.ireturn dL_place_24 rfl (rfl) rt_r
set_option maxHeartbeats 1000000 in
theorem w_place_r {p0 p1 : Int32} {v : Int32} (hcall : MC (En l D t b L xs) MX5_place 20 [.ref (q 0), .int p0, .int p1] (hw t q i a w) mc ms (rt (some (.int v)) (hw t q i' a' w) mc ms)) : MC (En l D t b L xs) ML_place 21 [.ref (q 0), .int p0, .int p1, .ref (q 29)] (hw t q i a w) mc ms (rt (some (.int 0)) (hw t q i' a' v.toInt64) mc ms) := by
  show MW _ _ _ 0 [some (.ref (q 0)), some (.int p0), some (.int p1), some (.ref (q 29)), none] [] _ _ _ _
  refine MW.aload_n dL_place_0 rfl ?_
  refine MW.iconst (v := 0) dL_place_1 (by decide) ?_
  refine MW.aload_n dL_place_2 rfl ?_
  refine MW.iload_n dL_place_3 rfl ?_
  refine MW.iload_n dL_place_4 rfl ?_
  refine MW.callV1 fL_place_5 0 rfl (hcall) rfl rfl rfl rfl (Nat.le_of_ble_eq_true rfl) ?_
  refine MW.i2l dL_place_8 ?_
  refine MW.last dL_place_9 29 3 rfl rfl (vp_in_nI (n := 0) (by omega) (by omega)) ?_
  refine MW.heap hw_o ?_
  refine MW.goto 25 dL_place_10 (by decide) ?_
  refine MW.iconst (v := 0) dL_place_25 (by decide) ?_
  exact MW.ireturn dL_place_26 rfl (rfl) (by first | exact rt_r | (unfold bL; first | (rw [if_pos hc7]; exact rt_r) | (rw [if_neg hc7]; exact rt_r) | (rw [if_pos hc8]; exact rt_r) | (rw [if_neg hc8]; exact rt_r)))
theorem wa_at_0 : mi_Ca ML_at 4 0 12 := ⟨[], [], (0, 9, 12, 37), mi_exn 0, rfl, fun _ h => absurd h List.not_mem_nil, by decide, by decide, wl_37, wc_0, rfl⟩
set_option maxHeartbeats 1000000 in
theorem w_at_0 {p0 : Int32} (hcall : MC (En l D t b L xs) MX5_at 20 [.ref (q 0), .int p0] (hw t q i a w) mc ms (xt 0 (hw t q i a w) mc ms)) : MC (En l D t b L xs) ML_at 21 [.ref (q 0), .int p0, .ref (q 29)] (hw t q i a w) mc ms (rt (some (.int 1)) (hw t q i a w) (mc + 1) (ms + 6)) := by
  show MW _ _ _ 0 [some (.ref (q 0)), some (.int p0), some (.ref (q 29)), none] [] _ _ _ _
  refine MW.aload_n dL_at_0 rfl ?_
  refine MW.iconst (v := 0) dL_at_1 (by decide) ?_
  refine MW.aload_n dL_at_2 rfl ?_
  refine MW.iload_n dL_at_3 rfl ?_
  refine MW.thrVc fL_at_4 0 rfl hcall rfl rfl rfl rfl (Nat.le_of_ble_eq_true rfl) wa_at_0 (fun r => ?_)
  refine MW.astore_n dL_at_12 rfl rfl ?_
  refine MW.iconst (v := 1) dL_at_13 (by decide) ?_
  exact MW.ireturn dL_at_14 rfl (rfl) rt_r
set_option maxHeartbeats 1000000 in
theorem w_at_r {p0 : Int32} {v : Int32} (hcall : MC (En l D t b L xs) MX5_at 20 [.ref (q 0), .int p0] (hw t q i a w) mc ms (rt (some (.int v)) (hw t q i' a' w) mc ms)) : MC (En l D t b L xs) ML_at 21 [.ref (q 0), .int p0, .ref (q 29)] (hw t q i a w) mc ms (rt (some (.int 0)) (hw t q i' a' v.toInt64) mc ms) := by
  show MW _ _ _ 0 [some (.ref (q 0)), some (.int p0), some (.ref (q 29)), none] [] _ _ _ _
  refine MW.aload_n dL_at_0 rfl ?_
  refine MW.iconst (v := 0) dL_at_1 (by decide) ?_
  refine MW.aload_n dL_at_2 rfl ?_
  refine MW.iload_n dL_at_3 rfl ?_
  refine MW.callV1 fL_at_4 0 rfl (hcall) rfl rfl rfl rfl (Nat.le_of_ble_eq_true rfl) ?_
  refine MW.i2l dL_at_7 ?_
  refine MW.last dL_at_8 29 3 rfl rfl (vp_in_nI (n := 0) (by omega) (by omega)) ?_
  refine MW.heap hw_o ?_
  refine MW.goto 15 dL_at_9 (by decide) ?_
  refine MW.iconst (v := 0) dL_at_15 (by decide) ?_
  exact MW.ireturn dL_at_16 rfl (rfl) (by first | exact rt_r | (unfold bL; first | (rw [if_pos hc7]; exact rt_r) | (rw [if_neg hc7]; exact rt_r) | (rw [if_pos hc8]; exact rt_r) | (rw [if_neg hc8]; exact rt_r)))
theorem wa_axle_1 : mi_Ca ML_axle 5 1 13 := ⟨[], [(0, 10, 17, 45)], (0, 10, 13, 15), mi_exn 1, rfl, fun _ h => absurd h List.not_mem_nil, by decide, by decide, wl_15, wc_1, rfl⟩
set_option maxHeartbeats 1000000 in
theorem w_axle_1 {p0 p1 : Int32} (hcall : MC (En l D t b L xs) MX5_axle 20 [.ref (q 0), .int p0, .int p1] (hw t q i a w) mc ms (xt 1 (hw t q i a w) mc ms)) : MC (En l D t b L xs) ML_axle 21 [.ref (q 0), .int p0, .int p1, .ref (q 29)] (hw t q i a w) mc ms (rt (some (.int 1)) (hw t q i a w) (mc + 1) (ms + 6)) := by
  show MW _ _ _ 0 [some (.ref (q 0)), some (.int p0), some (.int p1), some (.ref (q 29)), none] [] _ _ _ _
  refine MW.aload_n dL_axle_0 rfl ?_
  refine MW.iconst (v := 0) dL_axle_1 (by decide) ?_
  refine MW.aload_n dL_axle_2 rfl ?_
  refine MW.iload_n dL_axle_3 rfl ?_
  refine MW.iload_n dL_axle_4 rfl ?_
  refine MW.thrVc fL_axle_5 0 rfl hcall rfl rfl rfl rfl (Nat.le_of_ble_eq_true rfl) wa_axle_1 (fun r => ?_)
  refine MW.astore dL_axle_13 rfl rfl ?_
  refine MW.iconst (v := 1) dL_axle_15 (by decide) ?_
  exact MW.ireturn dL_axle_16 rfl (rfl) rt_r
theorem wa_axle_4 : mi_Ca ML_axle 5 4 17 := ⟨[(0, 10, 13, 15)], [], (0, 10, 17, 45), mi_exn 4, rfl, List.forall_mem_cons.mpr ⟨⟨by decide, by decide, mi_exn 1, wl_15, by decide +kernel⟩, fun _ h => absurd h List.not_mem_nil⟩, by decide, by decide, wl_45, wc_4, rfl⟩
set_option maxHeartbeats 1000000 in
theorem w_axle_4 {p0 p1 : Int32} (hcall : MC (En l D t b L xs) MX5_axle 20 [.ref (q 0), .int p0, .int p1] (hw t q i a w) mc ms (xt 4 (hw t q i a w) mc ms)) : MC (En l D t b L xs) ML_axle 21 [.ref (q 0), .int p0, .int p1, .ref (q 29)] (hw t q i a w) mc ms (rt (some (.int 2)) (hw t q i a w) (mc + 1) (ms + 6)) := by
  show MW _ _ _ 0 [some (.ref (q 0)), some (.int p0), some (.int p1), some (.ref (q 29)), none] [] _ _ _ _
  refine MW.aload_n dL_axle_0 rfl ?_
  refine MW.iconst (v := 0) dL_axle_1 (by decide) ?_
  refine MW.aload_n dL_axle_2 rfl ?_
  refine MW.iload_n dL_axle_3 rfl ?_
  refine MW.iload_n dL_axle_4 rfl ?_
  refine MW.thrVc fL_axle_5 0 rfl hcall rfl rfl rfl rfl (Nat.le_of_ble_eq_true rfl) wa_axle_4 (fun r => ?_)
  refine MW.astore dL_axle_17 rfl rfl ?_
  refine MW.iconst (v := 2) dL_axle_19 (by decide) ?_
  exact MW.ireturn dL_axle_20 rfl (rfl) rt_r
set_option maxHeartbeats 1000000 in
theorem w_axle_r {p0 p1 : Int32} {v : Int32} (hcall : MC (En l D t b L xs) MX5_axle 20 [.ref (q 0), .int p0, .int p1] (hw t q i a w) mc ms (rt (some (.int v)) (hw t q i' a' w) mc ms)) : MC (En l D t b L xs) ML_axle 21 [.ref (q 0), .int p0, .int p1, .ref (q 29)] (hw t q i a w) mc ms (rt (some (.int 0)) (hw t q i' a' v.toInt64) mc ms) := by
  show MW _ _ _ 0 [some (.ref (q 0)), some (.int p0), some (.int p1), some (.ref (q 29)), none] [] _ _ _ _
  refine MW.aload_n dL_axle_0 rfl ?_
  refine MW.iconst (v := 0) dL_axle_1 (by decide) ?_
  refine MW.aload_n dL_axle_2 rfl ?_
  refine MW.iload_n dL_axle_3 rfl ?_
  refine MW.iload_n dL_axle_4 rfl ?_
  refine MW.callV1 fL_axle_5 0 rfl (hcall) rfl rfl rfl rfl (Nat.le_of_ble_eq_true rfl) ?_
  refine MW.i2l dL_axle_8 ?_
  refine MW.last dL_axle_9 29 3 rfl rfl (vp_in_nI (n := 0) (by omega) (by omega)) ?_
  refine MW.heap hw_o ?_
  refine MW.goto 21 dL_axle_10 (by decide) ?_
  refine MW.iconst (v := 0) dL_axle_21 (by decide) ?_
  exact MW.ireturn dL_axle_22 rfl (rfl) (by first | exact rt_r | (unfold bL; first | (rw [if_pos hc7]; exact rt_r) | (rw [if_neg hc7]; exact rt_r) | (rw [if_pos hc8]; exact rt_r) | (rw [if_neg hc8]; exact rt_r)))
theorem wa_bar_0 : mi_Ca ML_bar 4 0 12 := ⟨[], [(0, 9, 15, 17)], (0, 9, 12, 37), mi_exn 0, rfl, fun _ h => absurd h List.not_mem_nil, by decide, by decide, wl_37, wc_0, rfl⟩
set_option maxHeartbeats 1000000 in
theorem w_bar_0 {p0 : Int32} (hcall : MC (En l D t b L xs) MX5_bar 20 [.ref (q 0), .int p0] (hw t q i a w) mc ms (xt 0 (hw t q i a w) mc ms)) : MC (En l D t b L xs) ML_bar 21 [.ref (q 0), .int p0, .ref (q 29)] (hw t q i a w) mc ms (rt (some (.int 1)) (hw t q i a w) (mc + 1) (ms + 6)) := by
  show MW _ _ _ 0 [some (.ref (q 0)), some (.int p0), some (.ref (q 29)), none] [] _ _ _ _
  refine MW.aload_n dL_bar_0 rfl ?_
  refine MW.iconst (v := 0) dL_bar_1 (by decide) ?_
  refine MW.aload_n dL_bar_2 rfl ?_
  refine MW.iload_n dL_bar_3 rfl ?_
  refine MW.thrVc fL_bar_4 0 rfl hcall rfl rfl rfl rfl (Nat.le_of_ble_eq_true rfl) wa_bar_0 (fun r => ?_)
  refine MW.astore_n dL_bar_12 rfl rfl ?_
  refine MW.iconst (v := 1) dL_bar_13 (by decide) ?_
  exact MW.ireturn dL_bar_14 rfl (rfl) rt_r
theorem wa_bar_2 : mi_Ca ML_bar 4 2 15 := ⟨[(0, 9, 12, 37)], [], (0, 9, 15, 17), mi_exn 2, rfl, List.forall_mem_cons.mpr ⟨⟨by decide, by decide, mi_exn 0, wl_37, by decide +kernel⟩, fun _ h => absurd h List.not_mem_nil⟩, by decide, by decide, wl_17, wc_2, rfl⟩
set_option maxHeartbeats 1000000 in
theorem w_bar_2 {p0 : Int32} (hcall : MC (En l D t b L xs) MX5_bar 20 [.ref (q 0), .int p0] (hw t q i a w) mc ms (xt 2 (hw t q i a w) mc ms)) : MC (En l D t b L xs) ML_bar 21 [.ref (q 0), .int p0, .ref (q 29)] (hw t q i a w) mc ms (rt (some (.int 2)) (hw t q i a w) (mc + 1) (ms + 6)) := by
  show MW _ _ _ 0 [some (.ref (q 0)), some (.int p0), some (.ref (q 29)), none] [] _ _ _ _
  refine MW.aload_n dL_bar_0 rfl ?_
  refine MW.iconst (v := 0) dL_bar_1 (by decide) ?_
  refine MW.aload_n dL_bar_2 rfl ?_
  refine MW.iload_n dL_bar_3 rfl ?_
  refine MW.thrVc fL_bar_4 0 rfl hcall rfl rfl rfl rfl (Nat.le_of_ble_eq_true rfl) wa_bar_2 (fun r => ?_)
  refine MW.astore_n dL_bar_15 rfl rfl ?_
  refine MW.iconst (v := 2) dL_bar_16 (by decide) ?_
  exact MW.ireturn dL_bar_17 rfl (rfl) rt_r
set_option maxHeartbeats 1000000 in
theorem w_bar_r {p0 : Int32} {v : Int32} (hcall : MC (En l D t b L xs) MX5_bar 20 [.ref (q 0), .int p0] (hw t q i a w) mc ms (rt (some (.int v)) (hw t q i' a' w) mc ms)) : MC (En l D t b L xs) ML_bar 21 [.ref (q 0), .int p0, .ref (q 29)] (hw t q i a w) mc ms (rt (some (.int 0)) (hw t q i' a' v.toInt64) mc ms) := by
  show MW _ _ _ 0 [some (.ref (q 0)), some (.int p0), some (.ref (q 29)), none] [] _ _ _ _
  refine MW.aload_n dL_bar_0 rfl ?_
  refine MW.iconst (v := 0) dL_bar_1 (by decide) ?_
  refine MW.aload_n dL_bar_2 rfl ?_
  refine MW.iload_n dL_bar_3 rfl ?_
  refine MW.callV1 fL_bar_4 0 rfl (hcall) rfl rfl rfl rfl (Nat.le_of_ble_eq_true rfl) ?_
  refine MW.i2l dL_bar_7 ?_
  refine MW.last dL_bar_8 29 3 rfl rfl (vp_in_nI (n := 0) (by omega) (by omega)) ?_
  refine MW.heap hw_o ?_
  refine MW.goto 18 dL_bar_9 (by decide) ?_
  refine MW.iconst (v := 0) dL_bar_18 (by decide) ?_
  exact MW.ireturn dL_bar_19 rfl (rfl) (by first | exact rt_r | (unfold bL; first | (rw [if_pos hc7]; exact rt_r) | (rw [if_neg hc7]; exact rt_r) | (rw [if_pos hc8]; exact rt_r) | (rw [if_neg hc8]; exact rt_r)))
theorem wa_change_0 : mi_Ca ML_change 5 0 20 := ⟨[], [(0, 17, 24, 15), (0, 17, 28, 17)], (0, 17, 20, 37), mi_exn 0, rfl, fun _ h => absurd h List.not_mem_nil, by decide, by decide, wl_37, wc_0, rfl⟩
set_option maxHeartbeats 1000000 in
theorem w_change_0 {p0 p1 : Int32} (hcall : MC (En l D t b L xs) MX5_change 20 [.ref (q 0), .int p0, .int p1] (hw t q i a w) mc ms (xt 0 (hw t q i a w) mc ms)) : MC (En l D t b L xs) ML_change 21 [.ref (q 0), .int p0, .int p1, .ref (q 29)] (hw t q i a w) mc ms (rt (some (.int 1)) (hw t q i a w) (mc + 1) (ms + 6)) := by
  show MW _ _ _ 0 [some (.ref (q 0)), some (.int p0), some (.int p1), some (.ref (q 29)), none] [] _ _ _ _
  refine MW.aload_n dL_change_0 rfl ?_
  refine MW.iconst (v := 0) dL_change_1 (by decide) ?_
  refine MW.aload_n dL_change_2 rfl ?_
  refine MW.iload_n dL_change_3 rfl ?_
  refine MW.iload_n dL_change_4 rfl ?_
  refine MW.thrVc fL_change_5 0 rfl hcall rfl rfl rfl rfl (Nat.le_of_ble_eq_true rfl) wa_change_0 (fun r => ?_)
  refine MW.astore dL_change_20 rfl rfl ?_
  refine MW.iconst (v := 1) dL_change_22 (by decide) ?_
  exact MW.ireturn dL_change_23 rfl (rfl) rt_r
theorem wa_change_1 : mi_Ca ML_change 5 1 24 := ⟨[(0, 17, 20, 37)], [(0, 17, 28, 17)], (0, 17, 24, 15), mi_exn 1, rfl, List.forall_mem_cons.mpr ⟨⟨by decide, by decide, mi_exn 0, wl_37, by decide +kernel⟩, fun _ h => absurd h List.not_mem_nil⟩, by decide, by decide, wl_15, wc_1, rfl⟩
set_option maxHeartbeats 1000000 in
theorem w_change_1 {p0 p1 : Int32} (hcall : MC (En l D t b L xs) MX5_change 20 [.ref (q 0), .int p0, .int p1] (hw t q i a w) mc ms (xt 1 (hw t q i a w) mc ms)) : MC (En l D t b L xs) ML_change 21 [.ref (q 0), .int p0, .int p1, .ref (q 29)] (hw t q i a w) mc ms (rt (some (.int 2)) (hw t q i a w) (mc + 1) (ms + 6)) := by
  show MW _ _ _ 0 [some (.ref (q 0)), some (.int p0), some (.int p1), some (.ref (q 29)), none] [] _ _ _ _
  refine MW.aload_n dL_change_0 rfl ?_
  refine MW.iconst (v := 0) dL_change_1 (by decide) ?_
  refine MW.aload_n dL_change_2 rfl ?_
  refine MW.iload_n dL_change_3 rfl ?_
  refine MW.iload_n dL_change_4 rfl ?_
  refine MW.thrVc fL_change_5 0 rfl hcall rfl rfl rfl rfl (Nat.le_of_ble_eq_true rfl) wa_change_1 (fun r => ?_)
  refine MW.astore dL_change_24 rfl rfl ?_
  refine MW.iconst (v := 2) dL_change_26 (by decide) ?_
  exact MW.ireturn dL_change_27 rfl (rfl) rt_r
theorem wa_change_2 : mi_Ca ML_change 5 2 28 := ⟨[(0, 17, 20, 37), (0, 17, 24, 15)], [], (0, 17, 28, 17), mi_exn 2, rfl, List.forall_mem_cons.mpr ⟨⟨by decide, by decide, mi_exn 0, wl_37, by decide +kernel⟩, List.forall_mem_cons.mpr ⟨⟨by decide, by decide, mi_exn 1, wl_15, by decide +kernel⟩, fun _ h => absurd h List.not_mem_nil⟩⟩, by decide, by decide, wl_17, wc_2, rfl⟩
set_option maxHeartbeats 1000000 in
theorem w_change_2 {p0 p1 : Int32} (hcall : MC (En l D t b L xs) MX5_change 20 [.ref (q 0), .int p0, .int p1] (hw t q i a w) mc ms (xt 2 (hw t q i a w) mc ms)) : MC (En l D t b L xs) ML_change 21 [.ref (q 0), .int p0, .int p1, .ref (q 29)] (hw t q i a w) mc ms (rt (some (.int 3)) (hw t q i a w) (mc + 1) (ms + 6)) := by
  show MW _ _ _ 0 [some (.ref (q 0)), some (.int p0), some (.int p1), some (.ref (q 29)), none] [] _ _ _ _
  refine MW.aload_n dL_change_0 rfl ?_
  refine MW.iconst (v := 0) dL_change_1 (by decide) ?_
  refine MW.aload_n dL_change_2 rfl ?_
  refine MW.iload_n dL_change_3 rfl ?_
  refine MW.iload_n dL_change_4 rfl ?_
  refine MW.thrVc fL_change_5 0 rfl hcall rfl rfl rfl rfl (Nat.le_of_ble_eq_true rfl) wa_change_2 (fun r => ?_)
  refine MW.astore dL_change_28 rfl rfl ?_
  refine MW.iconst (v := 3) dL_change_30 (by decide) ?_
  exact MW.ireturn dL_change_31 rfl (rfl) rt_r
set_option maxHeartbeats 1000000 in
theorem w_change_r {p0 p1 : Int32} {v : Int32} (hcall : MC (En l D t b L xs) MX5_change 20 [.ref (q 0), .int p0, .int p1] (hw t q i a w) mc ms (rt (some (.int v)) (hw t q i' a' w) mc ms)) : MC (En l D t b L xs) ML_change 21 [.ref (q 0), .int p0, .int p1, .ref (q 29)] (hw t q i a w) mc ms (rt (some (.int 0)) (hw t q i' a' (bL v)) mc ms) := by
  show MW _ _ _ 0 [some (.ref (q 0)), some (.int p0), some (.int p1), some (.ref (q 29)), none] [] _ _ _ _
  refine MW.aload_n dL_change_0 rfl ?_
  refine MW.iconst (v := 0) dL_change_1 (by decide) ?_
  refine MW.aload_n dL_change_2 rfl ?_
  refine MW.iload_n dL_change_3 rfl ?_
  refine MW.iload_n dL_change_4 rfl ?_
  refine MW.callV1 fL_change_5 0 rfl (hcall) rfl rfl rfl rfl (Nat.le_of_ble_eq_true rfl) ?_
  refine MW.if_eq 15 dL_change_8 (by decide) (fun hc8 => ?_) (fun hc8 => ?_)
  · skip
    refine MW.lconst (v := 0) dL_change_15 (by decide) ?_
    refine MW.last dL_change_16 29 3 rfl rfl (vp_in_nI (n := 0) (by omega) (by omega)) ?_
    refine MW.heap hw_o ?_
    refine MW.goto 32 dL_change_17 (by decide) ?_
    refine MW.iconst (v := 0) dL_change_32 (by decide) ?_
    exact MW.ireturn dL_change_33 rfl (rfl) (by first | exact rt_r | (unfold bL; first | (rw [if_pos hc7]; exact rt_r) | (rw [if_neg hc7]; exact rt_r) | (rw [if_pos hc8]; exact rt_r) | (rw [if_neg hc8]; exact rt_r)))
  · skip
    refine MW.lconst (v := 1) dL_change_11 (by decide) ?_
    refine MW.goto 16 dL_change_12 (by decide) ?_
    refine MW.last dL_change_16 29 3 rfl rfl (vp_in_nI (n := 0) (by omega) (by omega)) ?_
    refine MW.heap hw_o ?_
    refine MW.goto 32 dL_change_17 (by decide) ?_
    refine MW.iconst (v := 0) dL_change_32 (by decide) ?_
    exact MW.ireturn dL_change_33 rfl (rfl) (by first | exact rt_r | (unfold bL; first | (rw [if_pos hc7]; exact rt_r) | (rw [if_neg hc7]; exact rt_r) | (rw [if_pos hc8]; exact rt_r) | (rw [if_neg hc8]; exact rt_r)))
theorem wa_doors_2 : mi_Ca ML_doors 4 2 19 := ⟨[], [], (0, 16, 19, 17), mi_exn 2, rfl, fun _ h => absurd h List.not_mem_nil, by decide, by decide, wl_17, wc_2, rfl⟩
set_option maxHeartbeats 1000000 in
theorem w_doors_2 {p0 : Int32} (hcall : MC (En l D t b L xs) MX5_doors 20 [.ref (q 0), .int p0] (hw t q i a w) mc ms (xt 2 (hw t q i a w) mc ms)) : MC (En l D t b L xs) ML_doors 21 [.ref (q 0), .int p0, .ref (q 29)] (hw t q i a w) mc ms (rt (some (.int 1)) (hw t q i a w) (mc + 1) (ms + 6)) := by
  show MW _ _ _ 0 [some (.ref (q 0)), some (.int p0), some (.ref (q 29)), none] [] _ _ _ _
  refine MW.aload_n dL_doors_0 rfl ?_
  refine MW.iconst (v := 0) dL_doors_1 (by decide) ?_
  refine MW.aload_n dL_doors_2 rfl ?_
  refine MW.iload_n dL_doors_3 rfl ?_
  refine MW.thrVc fL_doors_4 0 rfl hcall rfl rfl rfl rfl (Nat.le_of_ble_eq_true rfl) wa_doors_2 (fun r => ?_)
  refine MW.astore_n dL_doors_19 rfl rfl ?_
  refine MW.iconst (v := 1) dL_doors_20 (by decide) ?_
  exact MW.ireturn dL_doors_21 rfl (rfl) rt_r
set_option maxHeartbeats 1000000 in
theorem w_doors_r {p0 : Int32} {v : Int32} (hcall : MC (En l D t b L xs) MX5_doors 20 [.ref (q 0), .int p0] (hw t q i a w) mc ms (rt (some (.int v)) (hw t q i' a' w) mc ms)) : MC (En l D t b L xs) ML_doors 21 [.ref (q 0), .int p0, .ref (q 29)] (hw t q i a w) mc ms (rt (some (.int 0)) (hw t q i' a' (bL v)) mc ms) := by
  show MW _ _ _ 0 [some (.ref (q 0)), some (.int p0), some (.ref (q 29)), none] [] _ _ _ _
  refine MW.aload_n dL_doors_0 rfl ?_
  refine MW.iconst (v := 0) dL_doors_1 (by decide) ?_
  refine MW.aload_n dL_doors_2 rfl ?_
  refine MW.iload_n dL_doors_3 rfl ?_
  refine MW.callV1 fL_doors_4 0 rfl (hcall) rfl rfl rfl rfl (Nat.le_of_ble_eq_true rfl) ?_
  refine MW.if_eq 14 dL_doors_7 (by decide) (fun hc7 => ?_) (fun hc7 => ?_)
  · skip
    refine MW.lconst (v := 0) dL_doors_14 (by decide) ?_
    refine MW.last dL_doors_15 29 3 rfl rfl (vp_in_nI (n := 0) (by omega) (by omega)) ?_
    refine MW.heap hw_o ?_
    refine MW.goto 22 dL_doors_16 (by decide) ?_
    refine MW.iconst (v := 0) dL_doors_22 (by decide) ?_
    exact MW.ireturn dL_doors_23 rfl (rfl) (by first | exact rt_r | (unfold bL; first | (rw [if_pos hc7]; exact rt_r) | (rw [if_neg hc7]; exact rt_r) | (rw [if_pos hc8]; exact rt_r) | (rw [if_neg hc8]; exact rt_r)))
  · skip
    refine MW.lconst (v := 1) dL_doors_10 (by decide) ?_
    refine MW.goto 15 dL_doors_11 (by decide) ?_
    refine MW.last dL_doors_15 29 3 rfl rfl (vp_in_nI (n := 0) (by omega) (by omega)) ?_
    refine MW.heap hw_o ?_
    refine MW.goto 22 dL_doors_16 (by decide) ?_
    refine MW.iconst (v := 0) dL_doors_22 (by decide) ?_
    exact MW.ireturn dL_doors_23 rfl (rfl) (by first | exact rt_r | (unfold bL; first | (rw [if_pos hc7]; exact rt_r) | (rw [if_neg hc7]; exact rt_r) | (rw [if_pos hc8]; exact rt_r) | (rw [if_neg hc8]; exact rt_r)))
theorem wa_seal_1 : mi_Ca ML_seal 4 1 19 := ⟨[], [(0, 16, 22, 17), (0, 16, 25, 27)], (0, 16, 19, 15), mi_exn 1, rfl, fun _ h => absurd h List.not_mem_nil, by decide, by decide, wl_15, wc_1, rfl⟩
set_option maxHeartbeats 1000000 in
theorem w_seal_1 {p0 : Int32} (hcall : MC (En l D t b L xs) MX5_seal 20 [.ref (q 0), .int p0] (hw t q i a w) mc ms (xt 1 (hw t q i a w) mc ms)) : MC (En l D t b L xs) ML_seal 21 [.ref (q 0), .int p0, .ref (q 29)] (hw t q i a w) mc ms (rt (some (.int 1)) (hw t q i a w) (mc + 1) (ms + 6)) := by
  show MW _ _ _ 0 [some (.ref (q 0)), some (.int p0), some (.ref (q 29)), none] [] _ _ _ _
  refine MW.aload_n dL_seal_0 rfl ?_
  refine MW.iconst (v := 0) dL_seal_1 (by decide) ?_
  refine MW.aload_n dL_seal_2 rfl ?_
  refine MW.iload_n dL_seal_3 rfl ?_
  refine MW.thrVc fL_seal_4 0 rfl hcall rfl rfl rfl rfl (Nat.le_of_ble_eq_true rfl) wa_seal_1 (fun r => ?_)
  refine MW.astore_n dL_seal_19 rfl rfl ?_
  refine MW.iconst (v := 1) dL_seal_20 (by decide) ?_
  exact MW.ireturn dL_seal_21 rfl (rfl) rt_r
theorem wa_seal_2 : mi_Ca ML_seal 4 2 22 := ⟨[(0, 16, 19, 15)], [(0, 16, 25, 27)], (0, 16, 22, 17), mi_exn 2, rfl, List.forall_mem_cons.mpr ⟨⟨by decide, by decide, mi_exn 1, wl_15, by decide +kernel⟩, fun _ h => absurd h List.not_mem_nil⟩, by decide, by decide, wl_17, wc_2, rfl⟩
set_option maxHeartbeats 1000000 in
theorem w_seal_2 {p0 : Int32} (hcall : MC (En l D t b L xs) MX5_seal 20 [.ref (q 0), .int p0] (hw t q i a w) mc ms (xt 2 (hw t q i a w) mc ms)) : MC (En l D t b L xs) ML_seal 21 [.ref (q 0), .int p0, .ref (q 29)] (hw t q i a w) mc ms (rt (some (.int 2)) (hw t q i a w) (mc + 1) (ms + 6)) := by
  show MW _ _ _ 0 [some (.ref (q 0)), some (.int p0), some (.ref (q 29)), none] [] _ _ _ _
  refine MW.aload_n dL_seal_0 rfl ?_
  refine MW.iconst (v := 0) dL_seal_1 (by decide) ?_
  refine MW.aload_n dL_seal_2 rfl ?_
  refine MW.iload_n dL_seal_3 rfl ?_
  refine MW.thrVc fL_seal_4 0 rfl hcall rfl rfl rfl rfl (Nat.le_of_ble_eq_true rfl) wa_seal_2 (fun r => ?_)
  refine MW.astore_n dL_seal_22 rfl rfl ?_
  refine MW.iconst (v := 2) dL_seal_23 (by decide) ?_
  exact MW.ireturn dL_seal_24 rfl (rfl) rt_r
theorem wa_seal_3 : mi_Ca ML_seal 4 3 25 := ⟨[(0, 16, 19, 15), (0, 16, 22, 17)], [], (0, 16, 25, 27), mi_exn 3, rfl, List.forall_mem_cons.mpr ⟨⟨by decide, by decide, mi_exn 1, wl_15, by decide +kernel⟩, List.forall_mem_cons.mpr ⟨⟨by decide, by decide, mi_exn 2, wl_17, by decide +kernel⟩, fun _ h => absurd h List.not_mem_nil⟩⟩, by decide, by decide, wl_27, wc_3, rfl⟩
set_option maxHeartbeats 1000000 in
theorem w_seal_3 {p0 : Int32} (hcall : MC (En l D t b L xs) MX5_seal 20 [.ref (q 0), .int p0] (hw t q i a w) mc ms (xt 3 (hw t q i a w) mc ms)) : MC (En l D t b L xs) ML_seal 21 [.ref (q 0), .int p0, .ref (q 29)] (hw t q i a w) mc ms (rt (some (.int 3)) (hw t q i a w) (mc + 1) (ms + 6)) := by
  show MW _ _ _ 0 [some (.ref (q 0)), some (.int p0), some (.ref (q 29)), none] [] _ _ _ _
  refine MW.aload_n dL_seal_0 rfl ?_
  refine MW.iconst (v := 0) dL_seal_1 (by decide) ?_
  refine MW.aload_n dL_seal_2 rfl ?_
  refine MW.iload_n dL_seal_3 rfl ?_
  refine MW.thrVc fL_seal_4 0 rfl hcall rfl rfl rfl rfl (Nat.le_of_ble_eq_true rfl) wa_seal_3 (fun r => ?_)
  refine MW.astore_n dL_seal_25 rfl rfl ?_
  refine MW.iconst (v := 3) dL_seal_26 (by decide) ?_
  exact MW.ireturn dL_seal_27 rfl (rfl) rt_r
set_option maxHeartbeats 1000000 in
theorem w_seal_r {p0 : Int32} {v : Int32} (hcall : MC (En l D t b L xs) MX5_seal 20 [.ref (q 0), .int p0] (hw t q i a w) mc ms (rt (some (.int v)) (hw t q i' a' w) mc ms)) : MC (En l D t b L xs) ML_seal 21 [.ref (q 0), .int p0, .ref (q 29)] (hw t q i a w) mc ms (rt (some (.int 0)) (hw t q i' a' (bL v)) mc ms) := by
  show MW _ _ _ 0 [some (.ref (q 0)), some (.int p0), some (.ref (q 29)), none] [] _ _ _ _
  refine MW.aload_n dL_seal_0 rfl ?_
  refine MW.iconst (v := 0) dL_seal_1 (by decide) ?_
  refine MW.aload_n dL_seal_2 rfl ?_
  refine MW.iload_n dL_seal_3 rfl ?_
  refine MW.callV1 fL_seal_4 0 rfl (hcall) rfl rfl rfl rfl (Nat.le_of_ble_eq_true rfl) ?_
  refine MW.if_eq 14 dL_seal_7 (by decide) (fun hc7 => ?_) (fun hc7 => ?_)
  · skip
    refine MW.lconst (v := 0) dL_seal_14 (by decide) ?_
    refine MW.last dL_seal_15 29 3 rfl rfl (vp_in_nI (n := 0) (by omega) (by omega)) ?_
    refine MW.heap hw_o ?_
    refine MW.goto 28 dL_seal_16 (by decide) ?_
    refine MW.iconst (v := 0) dL_seal_28 (by decide) ?_
    exact MW.ireturn dL_seal_29 rfl (rfl) (by first | exact rt_r | (unfold bL; first | (rw [if_pos hc7]; exact rt_r) | (rw [if_neg hc7]; exact rt_r) | (rw [if_pos hc8]; exact rt_r) | (rw [if_neg hc8]; exact rt_r)))
  · skip
    refine MW.lconst (v := 1) dL_seal_10 (by decide) ?_
    refine MW.goto 15 dL_seal_11 (by decide) ?_
    refine MW.last dL_seal_15 29 3 rfl rfl (vp_in_nI (n := 0) (by omega) (by omega)) ?_
    refine MW.heap hw_o ?_
    refine MW.goto 28 dL_seal_16 (by decide) ?_
    refine MW.iconst (v := 0) dL_seal_28 (by decide) ?_
    exact MW.ireturn dL_seal_29 rfl (rfl) (by first | exact rt_r | (unfold bL; first | (rw [if_pos hc7]; exact rt_r) | (rw [if_neg hc7]; exact rt_r) | (rw [if_pos hc8]; exact rt_r) | (rw [if_neg hc8]; exact rt_r)))
theorem wa_broken_2 : mi_Ca ML_broken 3 2 11 := ⟨[], [], (0, 8, 11, 17), mi_exn 2, rfl, fun _ h => absurd h List.not_mem_nil, by decide, by decide, wl_17, wc_2, rfl⟩
set_option maxHeartbeats 1000000 in
theorem w_broken_2  (hcall : MC (En l D t b L xs) MX5_broken 20 [.ref (q 0)] (hw t q i a w) mc ms (xt 2 (hw t q i a w) mc ms)) : MC (En l D t b L xs) ML_broken 21 [.ref (q 0), .ref (q 29)] (hw t q i a w) mc ms (rt (some (.int 1)) (hw t q i a w) (mc + 1) (ms + 6)) := by
  show MW _ _ _ 0 [some (.ref (q 0)), some (.ref (q 29)), none] [] _ _ _ _
  refine MW.aload_n dL_broken_0 rfl ?_
  refine MW.iconst (v := 0) dL_broken_1 (by decide) ?_
  refine MW.aload_n dL_broken_2 rfl ?_
  refine MW.thrVc fL_broken_3 0 rfl hcall rfl rfl rfl rfl (Nat.le_of_ble_eq_true rfl) wa_broken_2 (fun r => ?_)
  refine MW.astore_n dL_broken_11 rfl rfl ?_
  refine MW.iconst (v := 1) dL_broken_12 (by decide) ?_
  exact MW.ireturn dL_broken_13 rfl (rfl) rt_r
set_option maxHeartbeats 1000000 in
theorem w_broken_r  {v : Int32} (hcall : MC (En l D t b L xs) MX5_broken 20 [.ref (q 0)] (hw t q i a w) mc ms (rt (some (.int v)) (hw t q i' a' w) mc ms)) : MC (En l D t b L xs) ML_broken 21 [.ref (q 0), .ref (q 29)] (hw t q i a w) mc ms (rt (some (.int 0)) (hw t q i' a' v.toInt64) mc ms) := by
  show MW _ _ _ 0 [some (.ref (q 0)), some (.ref (q 29)), none] [] _ _ _ _
  refine MW.aload_n dL_broken_0 rfl ?_
  refine MW.iconst (v := 0) dL_broken_1 (by decide) ?_
  refine MW.aload_n dL_broken_2 rfl ?_
  refine MW.callV1 fL_broken_3 0 rfl (hcall) rfl rfl rfl rfl (Nat.le_of_ble_eq_true rfl) ?_
  refine MW.i2l dL_broken_6 ?_
  refine MW.last dL_broken_7 29 3 rfl rfl (vp_in_nI (n := 0) (by omega) (by omega)) ?_
  refine MW.heap hw_o ?_
  refine MW.goto 14 dL_broken_8 (by decide) ?_
  refine MW.iconst (v := 0) dL_broken_14 (by decide) ?_
  exact MW.ireturn dL_broken_15 rfl (rfl) (by first | exact rt_r | (unfold bL; first | (rw [if_pos hc7]; exact rt_r) | (rw [if_neg hc7]; exact rt_r) | (rw [if_pos hc8]; exact rt_r) | (rw [if_neg hc8]; exact rt_r)))
theorem wa_order_1 : mi_Ca ML_order 5 1 13 := ⟨[], [], (0, 10, 13, 15), mi_exn 1, rfl, fun _ h => absurd h List.not_mem_nil, by decide, by decide, wl_15, wc_1, rfl⟩
set_option maxHeartbeats 1000000 in
theorem w_order_1 {p0 p1 : Int32} (hcall : MC (En l D t b L xs) MX5_order 20 [.ref (q 0), .int p0, .int p1] (hw t q i a w) mc ms (xt 1 (hw t q i a w) mc ms)) : MC (En l D t b L xs) ML_order 21 [.ref (q 0), .int p0, .int p1, .ref (q 29)] (hw t q i a w) mc ms (rt (some (.int 1)) (hw t q i a w) (mc + 1) (ms + 6)) := by
  show MW _ _ _ 0 [some (.ref (q 0)), some (.int p0), some (.int p1), some (.ref (q 29)), none] [] _ _ _ _
  refine MW.aload_n dL_order_0 rfl ?_
  refine MW.iconst (v := 0) dL_order_1 (by decide) ?_
  refine MW.aload_n dL_order_2 rfl ?_
  refine MW.iload_n dL_order_3 rfl ?_
  refine MW.iload_n dL_order_4 rfl ?_
  refine MW.thrVc fL_order_5 0 rfl hcall rfl rfl rfl rfl (Nat.le_of_ble_eq_true rfl) wa_order_1 (fun r => ?_)
  refine MW.astore dL_order_13 rfl rfl ?_
  refine MW.iconst (v := 1) dL_order_15 (by decide) ?_
  exact MW.ireturn dL_order_16 rfl (rfl) rt_r
set_option maxHeartbeats 1000000 in
theorem w_order_r {p0 p1 : Int32} {v : Int32} (hcall : MC (En l D t b L xs) MX5_order 20 [.ref (q 0), .int p0, .int p1] (hw t q i a w) mc ms (rt (some (.int v)) (hw t q i' a' w) mc ms)) : MC (En l D t b L xs) ML_order 21 [.ref (q 0), .int p0, .int p1, .ref (q 29)] (hw t q i a w) mc ms (rt (some (.int 0)) (hw t q i' a' v.toInt64) mc ms) := by
  show MW _ _ _ 0 [some (.ref (q 0)), some (.int p0), some (.int p1), some (.ref (q 29)), none] [] _ _ _ _
  refine MW.aload_n dL_order_0 rfl ?_
  refine MW.iconst (v := 0) dL_order_1 (by decide) ?_
  refine MW.aload_n dL_order_2 rfl ?_
  refine MW.iload_n dL_order_3 rfl ?_
  refine MW.iload_n dL_order_4 rfl ?_
  refine MW.callV1 fL_order_5 0 rfl (hcall) rfl rfl rfl rfl (Nat.le_of_ble_eq_true rfl) ?_
  refine MW.i2l dL_order_8 ?_
  refine MW.last dL_order_9 29 3 rfl rfl (vp_in_nI (n := 0) (by omega) (by omega)) ?_
  refine MW.heap hw_o ?_
  refine MW.goto 17 dL_order_10 (by decide) ?_
  refine MW.iconst (v := 0) dL_order_17 (by decide) ?_
  exact MW.ireturn dL_order_18 rfl (rfl) (by first | exact rt_r | (unfold bL; first | (rw [if_pos hc7]; exact rt_r) | (rw [if_neg hc7]; exact rt_r) | (rw [if_pos hc8]; exact rt_r) | (rw [if_neg hc8]; exact rt_r)))
theorem wa_manifest_1 : mi_Ca ML_manifest 4 1 12 := ⟨[], [], (0, 9, 12, 15), mi_exn 1, rfl, fun _ h => absurd h List.not_mem_nil, by decide, by decide, wl_15, wc_1, rfl⟩
set_option maxHeartbeats 1000000 in
theorem w_manifest_1 {p0 : Int32} (hcall : MC (En l D t b L xs) MX5_manifest 20 [.ref (q 0), .int p0] (hw t q i a w) mc ms (xt 1 (hw t q i a w) mc ms)) : MC (En l D t b L xs) ML_manifest 21 [.ref (q 0), .int p0, .ref (q 29)] (hw t q i a w) mc ms (rt (some (.int 1)) (hw t q i a w) (mc + 1) (ms + 6)) := by
  show MW _ _ _ 0 [some (.ref (q 0)), some (.int p0), some (.ref (q 29)), none] [] _ _ _ _
  refine MW.aload_n dL_manifest_0 rfl ?_
  refine MW.iconst (v := 0) dL_manifest_1 (by decide) ?_
  refine MW.aload_n dL_manifest_2 rfl ?_
  refine MW.iload_n dL_manifest_3 rfl ?_
  refine MW.thrVc fL_manifest_4 0 rfl hcall rfl rfl rfl rfl (Nat.le_of_ble_eq_true rfl) wa_manifest_1 (fun r => ?_)
  refine MW.astore_n dL_manifest_12 rfl rfl ?_
  refine MW.iconst (v := 1) dL_manifest_13 (by decide) ?_
  exact MW.ireturn dL_manifest_14 rfl (rfl) rt_r
set_option maxHeartbeats 1000000 in
theorem w_manifest_r {p0 : Int32} {v : Int32} (hcall : MC (En l D t b L xs) MX5_manifest 20 [.ref (q 0), .int p0] (hw t q i a w) mc ms (rt (some (.int v)) (hw t q i' a' w) mc ms)) : MC (En l D t b L xs) ML_manifest 21 [.ref (q 0), .int p0, .ref (q 29)] (hw t q i a w) mc ms (rt (some (.int 0)) (hw t q i' a' v.toInt64) mc ms) := by
  show MW _ _ _ 0 [some (.ref (q 0)), some (.int p0), some (.ref (q 29)), none] [] _ _ _ _
  refine MW.aload_n dL_manifest_0 rfl ?_
  refine MW.iconst (v := 0) dL_manifest_1 (by decide) ?_
  refine MW.aload_n dL_manifest_2 rfl ?_
  refine MW.iload_n dL_manifest_3 rfl ?_
  refine MW.callV1 fL_manifest_4 0 rfl (hcall) rfl rfl rfl rfl (Nat.le_of_ble_eq_true rfl) ?_
  refine MW.i2l dL_manifest_7 ?_
  refine MW.last dL_manifest_8 29 3 rfl rfl (vp_in_nI (n := 0) (by omega) (by omega)) ?_
  refine MW.heap hw_o ?_
  refine MW.goto 15 dL_manifest_9 (by decide) ?_
  refine MW.iconst (v := 0) dL_manifest_15 (by decide) ?_
  exact MW.ireturn dL_manifest_16 rfl (rfl) (by first | exact rt_r | (unfold bL; first | (rw [if_pos hc7]; exact rt_r) | (rw [if_neg hc7]; exact rt_r) | (rw [if_pos hc8]; exact rt_r) | (rw [if_neg hc8]; exact rt_r)))
end Wrap
