/-! SplitFares: its methods as plain functions, and that the bytecode runs them (printed by program). -/
theorem mt_SF_cheapest : sf_Mt ({ cls := "SplitFares", name := "cheapest", desc := "(IIII)I" } : Jvm.MethodName) prog_1_method_22_code 6 (some .int) 4 := ⟨sw_897, sw_1, ⟨by decide, by decide, by decide +kernel⟩, by decide⟩
theorem dd_SF_cheapest_0 : decode prog_1_method_22_code 0 = .ok (.aload_n 0, 1) := by decide +kernel
theorem dd_SF_cheapest_1 : decode prog_1_method_22_code 1 = .ok (.iload_n 1, 1) := by decide +kernel
theorem dd_SF_cheapest_2 : decode prog_1_method_22_code 2 = .ok (.iload_n 2, 1) := by decide +kernel
theorem dd_SF_cheapest_3 : decode prog_1_method_22_code 3 = .ok (.iload_n 3, 1) := by decide +kernel
theorem dd_SF_cheapest_4 : decode prog_1_method_22_code 4 = .ok (.bipush 7, 2) := by decide +kernel
theorem dd_SF_cheapest_6 : decode prog_1_method_22_code 6 = .ok (.invokevirtual 218, 3) := by decide +kernel
theorem dd_SF_cheapest_9 : decode prog_1_method_22_code 9 = .ok (.istore 5, 2) := by decide +kernel
theorem dd_SF_cheapest_11 : decode prog_1_method_22_code 11 = .ok (.iload 5, 2) := by decide +kernel
theorem dd_SF_cheapest_13 : decode prog_1_method_22_code 13 = .ok (.ifCond .lt 9, 3) := by decide +kernel
theorem dd_SF_cheapest_16 : decode prog_1_method_22_code 16 = .ok (.iload 4, 2) := by decide +kernel
theorem dd_SF_cheapest_18 : decode prog_1_method_22_code 18 = .ok (.iconst (-1), 1) := by decide +kernel
theorem dd_SF_cheapest_19 : decode prog_1_method_22_code 19 = .ok (.if_icmp .ne 6, 3) := by decide +kernel
theorem dd_SF_cheapest_25 : decode prog_1_method_22_code 25 = .ok (.aload_n 0, 1) := by decide +kernel
theorem dd_SF_cheapest_26 : decode prog_1_method_22_code 26 = .ok (.getfield 12, 3) := by decide +kernel
theorem dd_SF_cheapest_29 : decode prog_1_method_22_code 29 = .ok (.getfield 222, 3) := by decide +kernel
theorem dd_SF_cheapest_32 : decode prog_1_method_22_code 32 = .ok (.iload_n 2, 1) := by decide +kernel
theorem dd_SF_cheapest_33 : decode prog_1_method_22_code 33 = .ok (.iload_n 3, 1) := by decide +kernel
theorem dd_SF_cheapest_34 : decode prog_1_method_22_code 34 = .ok (.iload 4, 2) := by decide +kernel
theorem dd_SF_cheapest_36 : decode prog_1_method_22_code 36 = .ok (.invokevirtual 226, 3) := by decide +kernel
theorem dd_SF_cheapest_39 : decode prog_1_method_22_code 39 = .ok (.ireturn, 1) := by decide +kernel
theorem dd_SF_cheapest_22 : decode prog_1_method_22_code 22 = .ok (.iload 5, 2) := by decide +kernel
theorem dd_SF_cheapest_24 : decode prog_1_method_22_code 24 = .ok (.ireturn, 1) := by decide +kernel
def jx_SF_cheapest (p0 : Option Nat) (p1 : Int32) (p2 : Int32) (p3 : Int32) (p4 : Int32) : sf_M (Int32) :=
  sf_bnd (sf_rc 0 p0 (jx_SF_leastOn p0 p1 p2 p3 (7 : Int32))) fun x1 =>
  if x1 < 0 then (
  sf_ret x1
  ) else (
  if p4 = (-1 : Int32) then (
  sf_ret x1
  ) else (
  sf_bnd (sf_gR 0 0 p0) fun x4 =>
  sf_bnd (sf_gR 1 1 x4) fun x5 =>
  sf_bnd (sf_rc 10 x5 (jx_Ways_endOf x5 p2 p3 p4)) fun x6 =>
  sf_ret x6
  )
  )
set_option maxRecDepth 20000 in
set_option maxHeartbeats 4000000 in
theorem ok_SF_cheapest (p0 : Option Nat) (p1 : Int32) (p2 : Int32) (p3 : Int32) (p4 : Int32) : sf_Ok ({ cls := "SplitFares", name := "cheapest", desc := "(IIII)I" } : Jvm.MethodName) prog_1_method_22_code 6 (some .int) 6 [sf_rv p0, .int p1, .int p2, .int p3, .int p4] (jx_SF_cheapest p0 p1 p2 p3 p4) (fun r => some (.int r)) := by
  refine sf_Ok.of (env := [some (sf_rv p0), some (.int p1), some (.int p2), some (.int p3), some (.int p4), none]) (plainFor_of_name (by decide)) [false, false, false, false, false] (fun G => ⟨pk_r, pk_i, pk_i, pk_i, pk_i, trivial⟩) (Nat.le_of_ble_eq_true rfl) rfl (fun X => ?_)
  unfold jx_SF_cheapest
  refine fp_aload_n (i := 0) (r := p0) dd_SF_cheapest_0 rfl rfl (fr_pc (pc' := 1) rfl ?_)
  refine fp_iload_n (i := 1) (x := p1) dd_SF_cheapest_1 rfl rfl (fr_pc (pc' := 2) rfl ?_)
  refine fp_iload_n (i := 2) (x := p2) dd_SF_cheapest_2 rfl rfl (fr_pc (pc' := 3) rfl ?_)
  refine fp_iload_n (i := 3) (x := p3) dd_SF_cheapest_3 rfl rfl (fr_pc (pc' := 4) rfl ?_)
  refine fp_bipush (v := (7 : Int32)) dd_SF_cheapest_4 (by decide) (fr_pc (pc' := 6) rfl ?_)
  refine fr_callV (stk := []) (As := [.int p1, .int p2, .int p3, .int (7 : Int32)]) cl_0 (ok_SF_leastOn p0 p1 p2 p3 (7 : Int32)) mt_SF_leastOn rfl rfl sw_898 sw_900 sp_21 (by decide) (Nat.le_of_ble_eq_true rfl) dd_SF_cheapest_6 (fun x1 => fr_to (pc' := 9) (env' := [some (sf_rv p0), some (.int p1), some (.int p2), some (.int p3), some (.int p4), none]) (stk' := [.int x1]) rfl rfl rfl ?_)
  refine fp_istore (i := 5) dd_SF_cheapest_9 (Nat.le_of_ble_eq_true rfl) (fun _ => c1_i rfl) (fr_to (pc' := 11) (env' := [some (sf_rv p0), some (.int p1), some (.int p2), some (.int p3), some (.int p4), some (.int x1)]) (stk' := []) rfl rfl rfl ?_)
  refine fp_iload (i := 5) (x := x1) dd_SF_cheapest_11 rfl (fr_pc (pc' := 13) rfl ?_)
  refine fr_if_lt (tgt := 22) dd_SF_cheapest_13 rfl (fun _ => ?_) (fun _ => ?_)
  · refine fp_iload (i := 5) (x := x1) dd_SF_cheapest_22 rfl (fr_pc (pc' := 24) rfl ?_)
    exact fr_iret (v := x1) rfl rfl dd_SF_cheapest_24
  · refine fr_pc (pc' := 16) rfl ?_
    refine fp_iload (i := 4) (x := p4) dd_SF_cheapest_16 rfl (fr_pc (pc' := 18) rfl ?_)
    refine fp_iconst (v := (-1 : Int32)) dd_SF_cheapest_18 (by decide) (fr_pc (pc' := 19) rfl ?_)
    refine fr_icmp_ne (tgt := 25) dd_SF_cheapest_19 rfl (fun _ => ?_) (fun _ => ?_)
    · refine fr_pc (pc' := 22) rfl ?_
      refine fp_iload (i := 5) (x := x1) dd_SF_cheapest_22 rfl (fr_pc (pc' := 24) rfl ?_)
      exact fr_iret (v := x1) rfl rfl dd_SF_cheapest_24
    · refine fp_aload_n (i := 0) (r := p0) dd_SF_cheapest_25 rfl rfl (fr_pc (pc' := 26) rfl ?_)
      refine fr_gR cl_0 0 (by decide) rfl sw_315 dd_SF_cheapest_26 (fun x4 => fr_pc (pc' := 29) rfl ?_)
      refine fr_gR cl_1 1 (by decide) rfl sw_194 dd_SF_cheapest_29 (fun x5 => fr_pc (pc' := 32) rfl ?_)
      refine fp_iload_n (i := 2) (x := p2) dd_SF_cheapest_32 rfl rfl (fr_pc (pc' := 33) rfl ?_)
      refine fp_iload_n (i := 3) (x := p3) dd_SF_cheapest_33 rfl rfl (fr_pc (pc' := 34) rfl ?_)
      refine fp_iload (i := 4) (x := p4) dd_SF_cheapest_34 rfl (fr_pc (pc' := 36) rfl ?_)
      refine fr_callV (stk := []) (As := [.int p2, .int p3, .int p4]) cl_10 (ok_Ways_endOf x5 p2 p3 p4) mt_Ways_endOf rfl rfl sw_908 sw_909 sw_910 (by decide) (Nat.le_of_ble_eq_true rfl) dd_SF_cheapest_36 (fun x6 => fr_to (pc' := 39) (env' := [some (sf_rv p0), some (.int p1), some (.int p2), some (.int p3), some (.int p4), some (.int x1)]) (stk' := [.int x6]) rfl rfl rfl ?_)
      exact fr_iret (v := x6) rfl rfl dd_SF_cheapest_39
theorem mt_SF_byAtMost : sf_Mt ({ cls := "SplitFares", name := "byAtMost", desc := "(IIII)I" } : Jvm.MethodName) prog_1_method_23_code 5 (some .int) 4 := ⟨sw_916, sw_1, ⟨by decide, by decide, by decide +kernel⟩, by decide⟩
theorem dd_SF_byAtMost_0 : decode prog_1_method_23_code 0 = .ok (.iload 4, 2) := by decide +kernel
theorem dd_SF_byAtMost_2 : decode prog_1_method_23_code 2 = .ok (.iconst 1, 1) := by decide +kernel
theorem dd_SF_byAtMost_3 : decode prog_1_method_23_code 3 = .ok (.if_icmp .lt 10, 3) := by decide +kernel
theorem dd_SF_byAtMost_6 : decode prog_1_method_23_code 6 = .ok (.iload 4, 2) := by decide +kernel
theorem dd_SF_byAtMost_8 : decode prog_1_method_23_code 8 = .ok (.bipush 8, 2) := by decide +kernel
theorem dd_SF_byAtMost_10 : decode prog_1_method_23_code 10 = .ok (.if_icmp .lt 7, 3) := by decide +kernel
theorem dd_SF_byAtMost_17 : decode prog_1_method_23_code 17 = .ok (.aload_n 0, 1) := by decide +kernel
theorem dd_SF_byAtMost_18 : decode prog_1_method_23_code 18 = .ok (.iload_n 1, 1) := by decide +kernel
theorem dd_SF_byAtMost_19 : decode prog_1_method_23_code 19 = .ok (.iload_n 2, 1) := by decide +kernel
theorem dd_SF_byAtMost_20 : decode prog_1_method_23_code 20 = .ok (.iload_n 3, 1) := by decide +kernel
theorem dd_SF_byAtMost_21 : decode prog_1_method_23_code 21 = .ok (.iload 4, 2) := by decide +kernel
theorem dd_SF_byAtMost_23 : decode prog_1_method_23_code 23 = .ok (.invokevirtual 218, 3) := by decide +kernel
theorem dd_SF_byAtMost_13 : decode prog_1_method_23_code 13 = .ok (.iconst (-1), 1) := by decide +kernel
theorem dd_SF_byAtMost_14 : decode prog_1_method_23_code 14 = .ok (.goto 12, 3) := by decide +kernel
theorem dd_SF_byAtMost_26 : decode prog_1_method_23_code 26 = .ok (.ireturn, 1) := by decide +kernel
def jx_SF_byAtMost (p0 : Option Nat) (p1 : Int32) (p2 : Int32) (p3 : Int32) (p4 : Int32) : sf_M (Int32) :=
  if p4 < (1 : Int32) then (
  sf_ret (-1 : Int32)
  ) else (
  if p4 < (8 : Int32) then (
  sf_bnd (sf_rc 0 p0 (jx_SF_leastOn p0 p1 p2 p3 p4)) fun x3 =>
  sf_ret x3
  ) else (
  sf_ret (-1 : Int32)
  )
  )
set_option maxRecDepth 20000 in
set_option maxHeartbeats 4000000 in
theorem ok_SF_byAtMost (p0 : Option Nat) (p1 : Int32) (p2 : Int32) (p3 : Int32) (p4 : Int32) : sf_Ok ({ cls := "SplitFares", name := "byAtMost", desc := "(IIII)I" } : Jvm.MethodName) prog_1_method_23_code 5 (some .int) 6 [sf_rv p0, .int p1, .int p2, .int p3, .int p4] (jx_SF_byAtMost p0 p1 p2 p3 p4) (fun r => some (.int r)) := by
  refine sf_Ok.of (env := [some (sf_rv p0), some (.int p1), some (.int p2), some (.int p3), some (.int p4)]) (plainFor_of_name (by decide)) [false, false, false, false, false] (fun G => ⟨pk_r, pk_i, pk_i, pk_i, pk_i, trivial⟩) (Nat.le_of_ble_eq_true rfl) rfl (fun X => ?_)
  unfold jx_SF_byAtMost
  refine fp_iload (i := 4) (x := p4) dd_SF_byAtMost_0 rfl (fr_pc (pc' := 2) rfl ?_)
  refine fp_iconst (v := (1 : Int32)) dd_SF_byAtMost_2 (by decide) (fr_pc (pc' := 3) rfl ?_)
  refine fr_icmp_lt (tgt := 13) dd_SF_byAtMost_3 rfl (fun _ => ?_) (fun _ => ?_)
  · refine fp_iconst (v := (-1 : Int32)) dd_SF_byAtMost_13 (by decide) (fr_pc (pc' := 14) rfl ?_)
    refine fp_goto (tgt := 26) dd_SF_byAtMost_14 rfl ?_
    exact fr_iret (v := (-1 : Int32)) rfl rfl dd_SF_byAtMost_26
  · refine fr_pc (pc' := 6) rfl ?_
    refine fp_iload (i := 4) (x := p4) dd_SF_byAtMost_6 rfl (fr_pc (pc' := 8) rfl ?_)
    refine fp_bipush (v := (8 : Int32)) dd_SF_byAtMost_8 (by decide) (fr_pc (pc' := 10) rfl ?_)
    refine fr_icmp_lt (tgt := 17) dd_SF_byAtMost_10 rfl (fun _ => ?_) (fun _ => ?_)
    · refine fp_aload_n (i := 0) (r := p0) dd_SF_byAtMost_17 rfl rfl (fr_pc (pc' := 18) rfl ?_)
      refine fp_iload_n (i := 1) (x := p1) dd_SF_byAtMost_18 rfl rfl (fr_pc (pc' := 19) rfl ?_)
      refine fp_iload_n (i := 2) (x := p2) dd_SF_byAtMost_19 rfl rfl (fr_pc (pc' := 20) rfl ?_)
      refine fp_iload_n (i := 3) (x := p3) dd_SF_byAtMost_20 rfl rfl (fr_pc (pc' := 21) rfl ?_)
      refine fp_iload (i := 4) (x := p4) dd_SF_byAtMost_21 rfl (fr_pc (pc' := 23) rfl ?_)
      refine fr_callV (stk := []) (As := [.int p1, .int p2, .int p3, .int p4]) cl_0 (ok_SF_leastOn p0 p1 p2 p3 p4) mt_SF_leastOn rfl rfl sw_898 sw_900 sp_21 (by decide) (Nat.le_of_ble_eq_true rfl) dd_SF_byAtMost_23 (fun x3 => fr_to (pc' := 26) (env' := [some (sf_rv p0), some (.int p1), some (.int p2), some (.int p3), some (.int p4)]) (stk' := [.int x3]) rfl rfl rfl ?_)
      exact fr_iret (v := x3) rfl rfl dd_SF_byAtMost_26
    · refine fr_pc (pc' := 13) rfl ?_
      refine fp_iconst (v := (-1 : Int32)) dd_SF_byAtMost_13 (by decide) (fr_pc (pc' := 14) rfl ?_)
      refine fp_goto (tgt := 26) dd_SF_byAtMost_14 rfl ?_
      exact fr_iret (v := (-1 : Int32)) rfl rfl dd_SF_byAtMost_26
theorem mt_SF_fewest : sf_Mt ({ cls := "SplitFares", name := "fewest", desc := "(III)I" } : Jvm.MethodName) prog_1_method_24_code 5 (some .int) 3 := ⟨sw_920, sw_1, ⟨by decide, by decide, by decide +kernel⟩, by decide⟩
theorem dd_SF_fewest_0 : decode prog_1_method_24_code 0 = .ok (.iload_n 2, 1) := by decide +kernel
theorem dd_SF_fewest_1 : decode prog_1_method_24_code 1 = .ok (.iload_n 3, 1) := by decide +kernel
theorem dd_SF_fewest_2 : decode prog_1_method_24_code 2 = .ok (.invokestatic 103, 3) := by decide +kernel
theorem dd_SF_fewest_5 : decode prog_1_method_24_code 5 = .ok (.ifCond .ne 5, 3) := by decide +kernel
theorem dd_SF_fewest_8 : decode prog_1_method_24_code 8 = .ok (.iconst (-1), 1) := by decide +kernel
theorem dd_SF_fewest_9 : decode prog_1_method_24_code 9 = .ok (.ireturn, 1) := by decide +kernel
theorem dd_SF_fewest_10 : decode prog_1_method_24_code 10 = .ok (.aload_n 0, 1) := by decide +kernel
theorem dd_SF_fewest_11 : decode prog_1_method_24_code 11 = .ok (.getfield 12, 3) := by decide +kernel
theorem dd_SF_fewest_14 : decode prog_1_method_24_code 14 = .ok (.getfield 222, 3) := by decide +kernel
theorem dd_SF_fewest_17 : decode prog_1_method_24_code 17 = .ok (.aload_n 0, 1) := by decide +kernel
theorem dd_SF_fewest_18 : decode prog_1_method_24_code 18 = .ok (.getfield 12, 3) := by decide +kernel
theorem dd_SF_fewest_21 : decode prog_1_method_24_code 21 = .ok (.getfield 67, 3) := by decide +kernel
theorem dd_SF_fewest_24 : decode prog_1_method_24_code 24 = .ok (.iload_n 1, 1) := by decide +kernel
theorem dd_SF_fewest_25 : decode prog_1_method_24_code 25 = .ok (.invokevirtual 231, 3) := by decide +kernel
theorem dd_SF_fewest_28 : decode prog_1_method_24_code 28 = .ok (.iconst 1, 1) := by decide +kernel
theorem dd_SF_fewest_29 : decode prog_1_method_24_code 29 = .ok (.istore 4, 2) := by decide +kernel
theorem dd_SF_fewest_31 : decode prog_1_method_24_code 31 = .ok (.iload 4, 2) := by decide +kernel
theorem dd_SF_fewest_33 : decode prog_1_method_24_code 33 = .ok (.bipush 8, 2) := by decide +kernel
theorem dd_SF_fewest_35 : decode prog_1_method_24_code 35 = .ok (.if_icmp .ge 29, 3) := by decide +kernel
theorem dd_SF_fewest_38 : decode prog_1_method_24_code 38 = .ok (.aload_n 0, 1) := by decide +kernel
theorem dd_SF_fewest_39 : decode prog_1_method_24_code 39 = .ok (.getfield 12, 3) := by decide +kernel
theorem dd_SF_fewest_42 : decode prog_1_method_24_code 42 = .ok (.getfield 222, 3) := by decide +kernel
theorem dd_SF_fewest_45 : decode prog_1_method_24_code 45 = .ok (.iload_n 2, 1) := by decide +kernel
theorem dd_SF_fewest_46 : decode prog_1_method_24_code 46 = .ok (.iload_n 3, 1) := by decide +kernel
theorem dd_SF_fewest_47 : decode prog_1_method_24_code 47 = .ok (.iload 4, 2) := by decide +kernel
theorem dd_SF_fewest_49 : decode prog_1_method_24_code 49 = .ok (.invokevirtual 235, 3) := by decide +kernel
theorem dd_SF_fewest_52 : decode prog_1_method_24_code 52 = .ok (.ifCond .lt 6, 3) := by decide +kernel
theorem dd_SF_fewest_55 : decode prog_1_method_24_code 55 = .ok (.iload 4, 2) := by decide +kernel
theorem dd_SF_fewest_57 : decode prog_1_method_24_code 57 = .ok (.ireturn, 1) := by decide +kernel
theorem dd_SF_fewest_58 : decode prog_1_method_24_code 58 = .ok (.iinc 4 1, 3) := by decide +kernel
theorem dd_SF_fewest_61 : decode prog_1_method_24_code 61 = .ok (.goto (-30), 3) := by decide +kernel
theorem dd_SF_fewest_64 : decode prog_1_method_24_code 64 = .ok (.iconst (-1), 1) := by decide +kernel
theorem dd_SF_fewest_65 : decode prog_1_method_24_code 65 = .ok (.ireturn, 1) := by decide +kernel
def jx_SF_fewest (p0 : Option Nat) (p1 : Int32) (p2 : Int32) (p3 : Int32) : sf_M (Int32) :=
  sf_bnd (jx_SF_isLeg p2 p3) fun x1 =>
  if x1 = 0 then (
  sf_ret (-1 : Int32)
  ) else (
  sf_bnd (sf_gR 0 0 p0) fun x3 =>
  sf_bnd (sf_gR 1 1 x3) fun x4 =>
  sf_bnd (sf_gR 0 0 p0) fun x5 =>
  sf_bnd (sf_gR 1 0 x5) fun x6 =>
  sf_bnd (sf_rc 10 x4 (jx_Ways_fillWithSingles x4 x6 p1)) fun _ =>
  sf_or (α := Int32) (β := (Unit)) (sf_loop (β := (Int32)) (γ := (Int32 ⊕ (Unit))) (fun b8 =>
  if (8 : Int32) ≤ b8 then (
  sf_ret (.inr (.inr ()))
  ) else (
  sf_bnd (sf_gR 0 0 p0) fun x10 =>
  sf_bnd (sf_gR 1 1 x10) fun x11 =>
  sf_bnd (sf_rc 10 x11 (jx_Ways_least x11 p2 p3 b8)) fun x12 =>
  if x12 < 0 then (
  sf_bnd (sf_ret (b8 + (1 : Int32))) fun y14 =>
  sf_ret (.inl y14)
  ) else (
  sf_ret (.inr (.inl b8))
  )
  )
  ) sf_fuel (1 : Int32)) (fun e15 =>
  sf_ret (-1 : Int32)
  )
  )
set_option maxRecDepth 20000 in
set_option maxHeartbeats 4000000 in
theorem ok_SF_fewest (p0 : Option Nat) (p1 : Int32) (p2 : Int32) (p3 : Int32) : sf_Ok ({ cls := "SplitFares", name := "fewest", desc := "(III)I" } : Jvm.MethodName) prog_1_method_24_code 5 (some .int) 5 [sf_rv p0, .int p1, .int p2, .int p3] (jx_SF_fewest p0 p1 p2 p3) (fun r => some (.int r)) := by
  refine sf_Ok.of (env := [some (sf_rv p0), some (.int p1), some (.int p2), some (.int p3), none]) (plainFor_of_name (by decide)) [false, false, false, false] (fun G => ⟨pk_r, pk_i, pk_i, pk_i, trivial⟩) (Nat.le_of_ble_eq_true rfl) rfl (fun X => ?_)
  unfold jx_SF_fewest
  refine fp_iload_n (i := 2) (x := p2) dd_SF_fewest_0 rfl rfl (fr_pc (pc' := 1) rfl ?_)
  refine fp_iload_n (i := 3) (x := p3) dd_SF_fewest_1 rfl rfl (fr_pc (pc' := 2) rfl ?_)
  refine fr_callS (stk := []) (ok_SF_isLeg p2 p3) mt_SF_isLeg rfl rfl sw_397 sw_398 (by decide) (Nat.le_of_ble_eq_true rfl) dd_SF_fewest_2 (fun x1 => fr_to (pc' := 5) (env' := [some (sf_rv p0), some (.int p1), some (.int p2), some (.int p3), none]) (stk' := [.int x1]) rfl rfl rfl ?_)
  refine fr_if_ne (tgt := 10) dd_SF_fewest_5 rfl (fun _ => ?_) (fun _ => ?_)
  · refine fr_pc (pc' := 8) rfl ?_
    refine fp_iconst (v := (-1 : Int32)) dd_SF_fewest_8 (by decide) (fr_pc (pc' := 9) rfl ?_)
    exact fr_iret (v := (-1 : Int32)) rfl rfl dd_SF_fewest_9
  · refine fp_aload_n (i := 0) (r := p0) dd_SF_fewest_10 rfl rfl (fr_pc (pc' := 11) rfl ?_)
    refine fr_gR cl_0 0 (by decide) rfl sw_315 dd_SF_fewest_11 (fun x3 => fr_pc (pc' := 14) rfl ?_)
    refine fr_gR cl_1 1 (by decide) rfl sw_194 dd_SF_fewest_14 (fun x4 => fr_pc (pc' := 17) rfl ?_)
    refine fp_aload_n (i := 0) (r := p0) dd_SF_fewest_17 rfl rfl (fr_pc (pc' := 18) rfl ?_)
    refine fr_gR cl_0 0 (by decide) rfl sw_315 dd_SF_fewest_18 (fun x5 => fr_pc (pc' := 21) rfl ?_)
    refine fr_gR cl_1 0 (by decide) rfl sw_192 dd_SF_fewest_21 (fun x6 => fr_pc (pc' := 24) rfl ?_)
    refine fp_iload_n (i := 1) (x := p1) dd_SF_fewest_24 rfl rfl (fr_pc (pc' := 25) rfl ?_)
    refine fr_callV (stk := []) (As := [sf_rv x6, .int p1]) cl_10 (ok_Ways_fillWithSingles x4 x6 p1) mt_Ways_fillWithSingles rfl rfl sw_902 sw_903 sw_904 (by decide) (Nat.le_of_ble_eq_true rfl) dd_SF_fewest_25 (fun u7 => fr_to (pc' := 28) (env' := [some (sf_rv p0), some (.int p1), some (.int p2), some (.int p3), none]) (stk' := []) rfl rfl rfl ?_)
    refine fp_iconst (v := (1 : Int32)) dd_SF_fewest_28 (by decide) (fr_pc (pc' := 29) rfl ?_)
    refine fp_istore (i := 4) dd_SF_fewest_29 (Nat.le_of_ble_eq_true rfl) (fun _ => c1_i rfl) (fr_to (pc' := 31) (env' := [some (sf_rv p0), some (.int p1), some (.int p2), some (.int p3), some (.int (1 : Int32))]) (stk' := []) rfl rfl rfl ?_)
    refine fr_to (pc' := 31) (env' := [some (sf_rv p0), some (.int p1), some (.int p2), some (.int p3), some (.int (1 : Int32))]) (stk' := []) rfl rfl rfl ?_
    refine fr_or (l1 := (fun (e15 : (Unit)) => sf_p 64 [some (sf_rv p0), some (.int p1), some (.int p2), some (.int p3), none] [])) (fr_loop (Lb := (fun (b8 : (Int32)) => sf_p 31 [some (sf_rv p0), some (.int p1), some (.int p2), some (.int p3), some (.int b8)] [])) (fun b8 => ?_) _ _) (fun e15 => ?_)
    · refine fp_iload (i := 4) (x := b8) dd_SF_fewest_31 rfl (fr_pc (pc' := 33) rfl ?_)
      refine fp_bipush (v := (8 : Int32)) dd_SF_fewest_33 (by decide) (fr_pc (pc' := 35) rfl ?_)
      refine fr_icmp_ge (tgt := 64) dd_SF_fewest_35 rfl (fun _ => ?_) (fun _ => ?_)
      · refine fr_wk [true, true, true, true, false] ?_
        exact fr_ret rfl
      · refine fr_pc (pc' := 38) rfl ?_
        refine fp_aload_n (i := 0) (r := p0) dd_SF_fewest_38 rfl rfl (fr_pc (pc' := 39) rfl ?_)
        refine fr_gR cl_0 0 (by decide) rfl sw_315 dd_SF_fewest_39 (fun x10 => fr_pc (pc' := 42) rfl ?_)
        refine fr_gR cl_1 1 (by decide) rfl sw_194 dd_SF_fewest_42 (fun x11 => fr_pc (pc' := 45) rfl ?_)
        refine fp_iload_n (i := 2) (x := p2) dd_SF_fewest_45 rfl rfl (fr_pc (pc' := 46) rfl ?_)
        refine fp_iload_n (i := 3) (x := p3) dd_SF_fewest_46 rfl rfl (fr_pc (pc' := 47) rfl ?_)
        refine fp_iload (i := 4) (x := b8) dd_SF_fewest_47 rfl (fr_pc (pc' := 49) rfl ?_)
        refine fr_callV (stk := []) (As := [.int p2, .int p3, .int b8]) cl_10 (ok_Ways_least x11 p2 p3 b8) mt_Ways_least rfl rfl sw_907 sw_810 sw_811 (by decide) (Nat.le_of_ble_eq_true rfl) dd_SF_fewest_49 (fun x12 => fr_to (pc' := 52) (env' := [some (sf_rv p0), some (.int p1), some (.int p2), some (.int p3), some (.int b8)]) (stk' := [.int x12]) rfl rfl rfl ?_)
        refine fr_if_lt (tgt := 58) dd_SF_fewest_52 rfl (fun _ => ?_) (fun _ => ?_)
        · refine fr_niinc (i := 4) (x := b8) (w := (1 : Int32)) dd_SF_fewest_58 rfl (by decide) (Nat.le_of_ble_eq_true rfl) (fun _ => c1_i rfl) (fun y14 => fr_to (pc' := 61) (env' := [some (sf_rv p0), some (.int p1), some (.int p2), some (.int p3), some (.int y14)]) (stk' := []) rfl rfl rfl ?_)
          refine fp_goto (tgt := 31) dd_SF_fewest_61 rfl ?_
          exact fr_ret rfl
        · refine fr_pc (pc' := 55) rfl ?_
          refine fp_iload (i := 4) (x := b8) dd_SF_fewest_55 rfl (fr_pc (pc' := 57) rfl ?_)
          exact fr_iret (v := b8) rfl rfl dd_SF_fewest_57
    · refine fp_iconst (v := (-1 : Int32)) dd_SF_fewest_64 (by decide) (fr_pc (pc' := 65) rfl ?_)
      exact fr_iret (v := (-1 : Int32)) rfl rfl dd_SF_fewest_65
theorem mt_SF_ways : sf_Mt ({ cls := "SplitFares", name := "ways", desc := "(III)I" } : Jvm.MethodName) prog_1_method_25_code 4 (some .int) 3 := ⟨sw_924, sw_1, ⟨by decide, by decide, by decide +kernel⟩, by decide⟩
theorem dd_SF_ways_0 : decode prog_1_method_25_code 0 = .ok (.iload_n 2, 1) := by decide +kernel
theorem dd_SF_ways_1 : decode prog_1_method_25_code 1 = .ok (.iload_n 3, 1) := by decide +kernel
theorem dd_SF_ways_2 : decode prog_1_method_25_code 2 = .ok (.invokestatic 103, 3) := by decide +kernel
theorem dd_SF_ways_5 : decode prog_1_method_25_code 5 = .ok (.ifCond .eq 17, 3) := by decide +kernel
theorem dd_SF_ways_8 : decode prog_1_method_25_code 8 = .ok (.aload_n 0, 1) := by decide +kernel
theorem dd_SF_ways_9 : decode prog_1_method_25_code 9 = .ok (.getfield 12, 3) := by decide +kernel
theorem dd_SF_ways_12 : decode prog_1_method_25_code 12 = .ok (.getfield 67, 3) := by decide +kernel
theorem dd_SF_ways_15 : decode prog_1_method_25_code 15 = .ok (.iload_n 1, 1) := by decide +kernel
theorem dd_SF_ways_16 : decode prog_1_method_25_code 16 = .ok (.invokevirtual 79, 3) := by decide +kernel
theorem dd_SF_ways_19 : decode prog_1_method_25_code 19 = .ok (.ifCond .ne 5, 3) := by decide +kernel
theorem dd_SF_ways_24 : decode prog_1_method_25_code 24 = .ok (.aload_n 0, 1) := by decide +kernel
theorem dd_SF_ways_25 : decode prog_1_method_25_code 25 = .ok (.getfield 12, 3) := by decide +kernel
theorem dd_SF_ways_28 : decode prog_1_method_25_code 28 = .ok (.getfield 222, 3) := by decide +kernel
theorem dd_SF_ways_31 : decode prog_1_method_25_code 31 = .ok (.aload_n 0, 1) := by decide +kernel
theorem dd_SF_ways_32 : decode prog_1_method_25_code 32 = .ok (.getfield 12, 3) := by decide +kernel
theorem dd_SF_ways_35 : decode prog_1_method_25_code 35 = .ok (.getfield 67, 3) := by decide +kernel
theorem dd_SF_ways_38 : decode prog_1_method_25_code 38 = .ok (.iload_n 1, 1) := by decide +kernel
theorem dd_SF_ways_39 : decode prog_1_method_25_code 39 = .ok (.invokevirtual 231, 3) := by decide +kernel
theorem dd_SF_ways_42 : decode prog_1_method_25_code 42 = .ok (.aload_n 0, 1) := by decide +kernel
theorem dd_SF_ways_43 : decode prog_1_method_25_code 43 = .ok (.getfield 12, 3) := by decide +kernel
theorem dd_SF_ways_46 : decode prog_1_method_25_code 46 = .ok (.getfield 222, 3) := by decide +kernel
theorem dd_SF_ways_49 : decode prog_1_method_25_code 49 = .ok (.iload_n 2, 1) := by decide +kernel
theorem dd_SF_ways_50 : decode prog_1_method_25_code 50 = .ok (.iload_n 3, 1) := by decide +kernel
theorem dd_SF_ways_51 : decode prog_1_method_25_code 51 = .ok (.invokevirtual 238, 3) := by decide +kernel
theorem dd_SF_ways_54 : decode prog_1_method_25_code 54 = .ok (.ireturn, 1) := by decide +kernel
theorem dd_SF_ways_22 : decode prog_1_method_25_code 22 = .ok (.iconst (-1), 1) := by decide +kernel
theorem dd_SF_ways_23 : decode prog_1_method_25_code 23 = .ok (.ireturn, 1) := by decide +kernel
def jx_SF_ways (p0 : Option Nat) (p1 : Int32) (p2 : Int32) (p3 : Int32) : sf_M (Int32) :=
  sf_bnd (jx_SF_isLeg p2 p3) fun x1 =>
  if x1 = 0 then (
  sf_ret (-1 : Int32)
  ) else (
  sf_bnd (sf_gR 0 0 p0) fun x3 =>
  sf_bnd (sf_gR 1 0 x3) fun x4 =>
  sf_bnd (sf_rc 4 x4 (jx_Office_hasTrain x4 p1)) fun x5 =>
  if x5 = 0 then (
  sf_ret (-1 : Int32)
  ) else (
  sf_bnd (sf_gR 0 0 p0) fun x7 =>
  sf_bnd (sf_gR 1 1 x7) fun x8 =>
  sf_bnd (sf_gR 0 0 p0) fun x9 =>
  sf_bnd (sf_gR 1 0 x9) fun x10 =>
  sf_bnd (sf_rc 10 x8 (jx_Ways_fillWithSingles x8 x10 p1)) fun _ =>
  sf_bnd (sf_gR 0 0 p0) fun x12 =>
  sf_bnd (sf_gR 1 1 x12) fun x13 =>
  sf_bnd (sf_rc 10 x13 (jx_Ways_howMany x13 p2 p3)) fun x14 =>
  sf_ret x14
  )
  )
set_option maxRecDepth 20000 in
set_option maxHeartbeats 4000000 in
theorem ok_SF_ways (p0 : Option Nat) (p1 : Int32) (p2 : Int32) (p3 : Int32) : sf_Ok ({ cls := "SplitFares", name := "ways", desc := "(III)I" } : Jvm.MethodName) prog_1_method_25_code 4 (some .int) 5 [sf_rv p0, .int p1, .int p2, .int p3] (jx_SF_ways p0 p1 p2 p3) (fun r => some (.int r)) := by
  refine sf_Ok.of (env := [some (sf_rv p0), some (.int p1), some (.int p2), some (.int p3)]) (plainFor_of_name (by decide)) [false, false, false, false] (fun G => ⟨pk_r, pk_i, pk_i, pk_i, trivial⟩) (Nat.le_of_ble_eq_true rfl) rfl (fun X => ?_)
  unfold jx_SF_ways
  refine fp_iload_n (i := 2) (x := p2) dd_SF_ways_0 rfl rfl (fr_pc (pc' := 1) rfl ?_)
  refine fp_iload_n (i := 3) (x := p3) dd_SF_ways_1 rfl rfl (fr_pc (pc' := 2) rfl ?_)
  refine fr_callS (stk := []) (ok_SF_isLeg p2 p3) mt_SF_isLeg rfl rfl sw_397 sw_398 (by decide) (Nat.le_of_ble_eq_true rfl) dd_SF_ways_2 (fun x1 => fr_to (pc' := 5) (env' := [some (sf_rv p0), some (.int p1), some (.int p2), some (.int p3)]) (stk' := [.int x1]) rfl rfl rfl ?_)
  refine fr_if_eq (tgt := 22) dd_SF_ways_5 rfl (fun _ => ?_) (fun _ => ?_)
  · refine fp_iconst (v := (-1 : Int32)) dd_SF_ways_22 (by decide) (fr_pc (pc' := 23) rfl ?_)
    exact fr_iret (v := (-1 : Int32)) rfl rfl dd_SF_ways_23
  · refine fr_pc (pc' := 8) rfl ?_
    refine fp_aload_n (i := 0) (r := p0) dd_SF_ways_8 rfl rfl (fr_pc (pc' := 9) rfl ?_)
    refine fr_gR cl_0 0 (by decide) rfl sw_315 dd_SF_ways_9 (fun x3 => fr_pc (pc' := 12) rfl ?_)
    refine fr_gR cl_1 0 (by decide) rfl sw_192 dd_SF_ways_12 (fun x4 => fr_pc (pc' := 15) rfl ?_)
    refine fp_iload_n (i := 1) (x := p1) dd_SF_ways_15 rfl rfl (fr_pc (pc' := 16) rfl ?_)
    refine fr_callV (stk := []) (As := [.int p1]) cl_4 (ok_Office_hasTrain x4 p1) mt_Office_hasTrain rfl rfl sw_386 sw_387 sw_388 (by decide) (Nat.le_of_ble_eq_true rfl) dd_SF_ways_16 (fun x5 => fr_to (pc' := 19) (env' := [some (sf_rv p0), some (.int p1), some (.int p2), some (.int p3)]) (stk' := [.int x5]) rfl rfl rfl ?_)
    refine fr_if_ne (tgt := 24) dd_SF_ways_19 rfl (fun _ => ?_) (fun _ => ?_)
    · refine fr_pc (pc' := 22) rfl ?_
      refine fp_iconst (v := (-1 : Int32)) dd_SF_ways_22 (by decide) (fr_pc (pc' := 23) rfl ?_)
      exact fr_iret (v := (-1 : Int32)) rfl rfl dd_SF_ways_23
    · refine fp_aload_n (i := 0) (r := p0) dd_SF_ways_24 rfl rfl (fr_pc (pc' := 25) rfl ?_)
      refine fr_gR cl_0 0 (by decide) rfl sw_315 dd_SF_ways_25 (fun x7 => fr_pc (pc' := 28) rfl ?_)
      refine fr_gR cl_1 1 (by decide) rfl sw_194 dd_SF_ways_28 (fun x8 => fr_pc (pc' := 31) rfl ?_)
      refine fp_aload_n (i := 0) (r := p0) dd_SF_ways_31 rfl rfl (fr_pc (pc' := 32) rfl ?_)
      refine fr_gR cl_0 0 (by decide) rfl sw_315 dd_SF_ways_32 (fun x9 => fr_pc (pc' := 35) rfl ?_)
      refine fr_gR cl_1 0 (by decide) rfl sw_192 dd_SF_ways_35 (fun x10 => fr_pc (pc' := 38) rfl ?_)
      refine fp_iload_n (i := 1) (x := p1) dd_SF_ways_38 rfl rfl (fr_pc (pc' := 39) rfl ?_)
      refine fr_callV (stk := []) (As := [sf_rv x10, .int p1]) cl_10 (ok_Ways_fillWithSingles x8 x10 p1) mt_Ways_fillWithSingles rfl rfl sw_902 sw_903 sw_904 (by decide) (Nat.le_of_ble_eq_true rfl) dd_SF_ways_39 (fun u11 => fr_to (pc' := 42) (env' := [some (sf_rv p0), some (.int p1), some (.int p2), some (.int p3)]) (stk' := []) rfl rfl rfl ?_)
      refine fp_aload_n (i := 0) (r := p0) dd_SF_ways_42 rfl rfl (fr_pc (pc' := 43) rfl ?_)
      refine fr_gR cl_0 0 (by decide) rfl sw_315 dd_SF_ways_43 (fun x12 => fr_pc (pc' := 46) rfl ?_)
      refine fr_gR cl_1 1 (by decide) rfl sw_194 dd_SF_ways_46 (fun x13 => fr_pc (pc' := 49) rfl ?_)
      refine fp_iload_n (i := 2) (x := p2) dd_SF_ways_49 rfl rfl (fr_pc (pc' := 50) rfl ?_)
      refine fp_iload_n (i := 3) (x := p3) dd_SF_ways_50 rfl rfl (fr_pc (pc' := 51) rfl ?_)
      refine fr_callV (stk := []) (As := [.int p2, .int p3]) cl_10 (ok_Ways_howMany x13 p2 p3) mt_Ways_howMany rfl rfl sw_925 sw_926 sw_927 (by decide) (Nat.le_of_ble_eq_true rfl) dd_SF_ways_51 (fun x14 => fr_to (pc' := 54) (env' := [some (sf_rv p0), some (.int p1), some (.int p2), some (.int p3)]) (stk' := [.int x14]) rfl rfl rfl ?_)
      exact fr_iret (v := x14) rfl rfl dd_SF_ways_54
theorem mt_SF_thereAndBack : sf_Mt ({ cls := "SplitFares", name := "thereAndBack", desc := "(IIII)I" } : Jvm.MethodName) prog_1_method_26_code 5 (some .int) 4 := ⟨sw_932, sw_1, ⟨by decide, by decide, by decide +kernel⟩, by decide⟩
theorem dd_SF_thereAndBack_0 : decode prog_1_method_26_code 0 = .ok (.iload_n 3, 1) := by decide +kernel
theorem dd_SF_thereAndBack_1 : decode prog_1_method_26_code 1 = .ok (.iload 4, 2) := by decide +kernel
theorem dd_SF_thereAndBack_3 : decode prog_1_method_26_code 3 = .ok (.invokestatic 103, 3) := by decide +kernel
theorem dd_SF_thereAndBack_6 : decode prog_1_method_26_code 6 = .ok (.ifCond .ne 5, 3) := by decide +kernel
theorem dd_SF_thereAndBack_9 : decode prog_1_method_26_code 9 = .ok (.iconst (-1), 1) := by decide +kernel
theorem dd_SF_thereAndBack_10 : decode prog_1_method_26_code 10 = .ok (.ireturn, 1) := by decide +kernel
theorem dd_SF_thereAndBack_11 : decode prog_1_method_26_code 11 = .ok (.aload_n 0, 1) := by decide +kernel
theorem dd_SF_thereAndBack_12 : decode prog_1_method_26_code 12 = .ok (.getfield 12, 3) := by decide +kernel
theorem dd_SF_thereAndBack_15 : decode prog_1_method_26_code 15 = .ok (.getfield 222, 3) := by decide +kernel
theorem dd_SF_thereAndBack_18 : decode prog_1_method_26_code 18 = .ok (.aload_n 0, 1) := by decide +kernel
theorem dd_SF_thereAndBack_19 : decode prog_1_method_26_code 19 = .ok (.getfield 12, 3) := by decide +kernel
theorem dd_SF_thereAndBack_22 : decode prog_1_method_26_code 22 = .ok (.getfield 67, 3) := by decide +kernel
theorem dd_SF_thereAndBack_25 : decode prog_1_method_26_code 25 = .ok (.iload_n 1, 1) := by decide +kernel
theorem dd_SF_thereAndBack_26 : decode prog_1_method_26_code 26 = .ok (.iload_n 2, 1) := by decide +kernel
theorem dd_SF_thereAndBack_27 : decode prog_1_method_26_code 27 = .ok (.invokevirtual 241, 3) := by decide +kernel
theorem dd_SF_thereAndBack_30 : decode prog_1_method_26_code 30 = .ok (.aload_n 0, 1) := by decide +kernel
theorem dd_SF_thereAndBack_31 : decode prog_1_method_26_code 31 = .ok (.getfield 12, 3) := by decide +kernel
theorem dd_SF_thereAndBack_34 : decode prog_1_method_26_code 34 = .ok (.getfield 222, 3) := by decide +kernel
theorem dd_SF_thereAndBack_37 : decode prog_1_method_26_code 37 = .ok (.iload_n 3, 1) := by decide +kernel
theorem dd_SF_thereAndBack_38 : decode prog_1_method_26_code 38 = .ok (.iload 4, 2) := by decide +kernel
theorem dd_SF_thereAndBack_40 : decode prog_1_method_26_code 40 = .ok (.bipush 7, 2) := by decide +kernel
theorem dd_SF_thereAndBack_42 : decode prog_1_method_26_code 42 = .ok (.invokevirtual 235, 3) := by decide +kernel
theorem dd_SF_thereAndBack_45 : decode prog_1_method_26_code 45 = .ok (.ireturn, 1) := by decide +kernel
def jx_SF_thereAndBack (p0 : Option Nat) (p1 : Int32) (p2 : Int32) (p3 : Int32) (p4 : Int32) : sf_M (Int32) :=
  sf_bnd (jx_SF_isLeg p3 p4) fun x1 =>
  if x1 = 0 then (
  sf_ret (-1 : Int32)
  ) else (
  sf_bnd (sf_gR 0 0 p0) fun x3 =>
  sf_bnd (sf_gR 1 1 x3) fun x4 =>
  sf_bnd (sf_gR 0 0 p0) fun x5 =>
  sf_bnd (sf_gR 1 0 x5) fun x6 =>
  sf_bnd (sf_rc 10 x4 (jx_Ways_fillThereAndBack x4 x6 p1 p2)) fun _ =>
  sf_bnd (sf_gR 0 0 p0) fun x8 =>
  sf_bnd (sf_gR 1 1 x8) fun x9 =>
  sf_bnd (sf_rc 10 x9 (jx_Ways_least x9 p3 p4 (7 : Int32))) fun x10 =>
  sf_ret x10
  )
set_option maxRecDepth 20000 in
set_option maxHeartbeats 4000000 in
theorem ok_SF_thereAndBack (p0 : Option Nat) (p1 : Int32) (p2 : Int32) (p3 : Int32) (p4 : Int32) : sf_Ok ({ cls := "SplitFares", name := "thereAndBack", desc := "(IIII)I" } : Jvm.MethodName) prog_1_method_26_code 5 (some .int) 6 [sf_rv p0, .int p1, .int p2, .int p3, .int p4] (jx_SF_thereAndBack p0 p1 p2 p3 p4) (fun r => some (.int r)) := by
  refine sf_Ok.of (env := [some (sf_rv p0), some (.int p1), some (.int p2), some (.int p3), some (.int p4)]) (plainFor_of_name (by decide)) [false, false, false, false, false] (fun G => ⟨pk_r, pk_i, pk_i, pk_i, pk_i, trivial⟩) (Nat.le_of_ble_eq_true rfl) rfl (fun X => ?_)
  unfold jx_SF_thereAndBack
  refine fp_iload_n (i := 3) (x := p3) dd_SF_thereAndBack_0 rfl rfl (fr_pc (pc' := 1) rfl ?_)
  refine fp_iload (i := 4) (x := p4) dd_SF_thereAndBack_1 rfl (fr_pc (pc' := 3) rfl ?_)
  refine fr_callS (stk := []) (ok_SF_isLeg p3 p4) mt_SF_isLeg rfl rfl sw_397 sw_398 (by decide) (Nat.le_of_ble_eq_true rfl) dd_SF_thereAndBack_3 (fun x1 => fr_to (pc' := 6) (env' := [some (sf_rv p0), some (.int p1), some (.int p2), some (.int p3), some (.int p4)]) (stk' := [.int x1]) rfl rfl rfl ?_)
  refine fr_if_ne (tgt := 11) dd_SF_thereAndBack_6 rfl (fun _ => ?_) (fun _ => ?_)
  · refine fr_pc (pc' := 9) rfl ?_
    refine fp_iconst (v := (-1 : Int32)) dd_SF_thereAndBack_9 (by decide) (fr_pc (pc' := 10) rfl ?_)
    exact fr_iret (v := (-1 : Int32)) rfl rfl dd_SF_thereAndBack_10
  · refine fp_aload_n (i := 0) (r := p0) dd_SF_thereAndBack_11 rfl rfl (fr_pc (pc' := 12) rfl ?_)
    refine fr_gR cl_0 0 (by decide) rfl sw_315 dd_SF_thereAndBack_12 (fun x3 => fr_pc (pc' := 15) rfl ?_)
    refine fr_gR cl_1 1 (by decide) rfl sw_194 dd_SF_thereAndBack_15 (fun x4 => fr_pc (pc' := 18) rfl ?_)
    refine fp_aload_n (i := 0) (r := p0) dd_SF_thereAndBack_18 rfl rfl (fr_pc (pc' := 19) rfl ?_)
    refine fr_gR cl_0 0 (by decide) rfl sw_315 dd_SF_thereAndBack_19 (fun x5 => fr_pc (pc' := 22) rfl ?_)
    refine fr_gR cl_1 0 (by decide) rfl sw_192 dd_SF_thereAndBack_22 (fun x6 => fr_pc (pc' := 25) rfl ?_)
    refine fp_iload_n (i := 1) (x := p1) dd_SF_thereAndBack_25 rfl rfl (fr_pc (pc' := 26) rfl ?_)
    refine fp_iload_n (i := 2) (x := p2) dd_SF_thereAndBack_26 rfl rfl (fr_pc (pc' := 27) rfl ?_)
    refine fr_callV (stk := []) (As := [sf_rv x6, .int p1, .int p2]) cl_10 (ok_Ways_fillThereAndBack x4 x6 p1 p2) mt_Ways_fillThereAndBack rfl rfl sw_933 sw_934 sw_935 (by decide) (Nat.le_of_ble_eq_true rfl) dd_SF_thereAndBack_27 (fun u7 => fr_to (pc' := 30) (env' := [some (sf_rv p0), some (.int p1), some (.int p2), some (.int p3), some (.int p4)]) (stk' := []) rfl rfl rfl ?_)
    refine fp_aload_n (i := 0) (r := p0) dd_SF_thereAndBack_30 rfl rfl (fr_pc (pc' := 31) rfl ?_)
    refine fr_gR cl_0 0 (by decide) rfl sw_315 dd_SF_thereAndBack_31 (fun x8 => fr_pc (pc' := 34) rfl ?_)
    refine fr_gR cl_1 1 (by decide) rfl sw_194 dd_SF_thereAndBack_34 (fun x9 => fr_pc (pc' := 37) rfl ?_)
    refine fp_iload_n (i := 3) (x := p3) dd_SF_thereAndBack_37 rfl rfl (fr_pc (pc' := 38) rfl ?_)
    refine fp_iload (i := 4) (x := p4) dd_SF_thereAndBack_38 rfl (fr_pc (pc' := 40) rfl ?_)
    refine fp_bipush (v := (7 : Int32)) dd_SF_thereAndBack_40 (by decide) (fr_pc (pc' := 42) rfl ?_)
    refine fr_callV (stk := []) (As := [.int p3, .int p4, .int (7 : Int32)]) cl_10 (ok_Ways_least x9 p3 p4 (7 : Int32)) mt_Ways_least rfl rfl sw_907 sw_810 sw_811 (by decide) (Nat.le_of_ble_eq_true rfl) dd_SF_thereAndBack_42 (fun x10 => fr_to (pc' := 45) (env' := [some (sf_rv p0), some (.int p1), some (.int p2), some (.int p3), some (.int p4)]) (stk' := [.int x10]) rfl rfl rfl ?_)
    exact fr_iret (v := x10) rfl rfl dd_SF_thereAndBack_45
theorem mt_SF_saved : sf_Mt ({ cls := "SplitFares", name := "saved", desc := "(III)I" } : Jvm.MethodName) prog_1_method_27_code 4 (some .int) 3 := ⟨sw_946, sw_1, ⟨by decide, by decide, by decide +kernel⟩, by decide⟩
theorem dd_SF_saved_0 : decode prog_1_method_27_code 0 = .ok (.iload_n 2, 1) := by decide +kernel
theorem dd_SF_saved_1 : decode prog_1_method_27_code 1 = .ok (.iload_n 3, 1) := by decide +kernel
theorem dd_SF_saved_2 : decode prog_1_method_27_code 2 = .ok (.invokestatic 103, 3) := by decide +kernel
theorem dd_SF_saved_5 : decode prog_1_method_27_code 5 = .ok (.ifCond .ne 5, 3) := by decide +kernel
theorem dd_SF_saved_8 : decode prog_1_method_27_code 8 = .ok (.iconst (-1), 1) := by decide +kernel
theorem dd_SF_saved_9 : decode prog_1_method_27_code 9 = .ok (.ireturn, 1) := by decide +kernel
theorem dd_SF_saved_10 : decode prog_1_method_27_code 10 = .ok (.aload_n 0, 1) := by decide +kernel
theorem dd_SF_saved_11 : decode prog_1_method_27_code 11 = .ok (.getfield 12, 3) := by decide +kernel
theorem dd_SF_saved_14 : decode prog_1_method_27_code 14 = .ok (.getfield 222, 3) := by decide +kernel
theorem dd_SF_saved_17 : decode prog_1_method_27_code 17 = .ok (.aload_n 0, 1) := by decide +kernel
theorem dd_SF_saved_18 : decode prog_1_method_27_code 18 = .ok (.getfield 12, 3) := by decide +kernel
theorem dd_SF_saved_21 : decode prog_1_method_27_code 21 = .ok (.getfield 67, 3) := by decide +kernel
theorem dd_SF_saved_24 : decode prog_1_method_27_code 24 = .ok (.iload_n 1, 1) := by decide +kernel
theorem dd_SF_saved_25 : decode prog_1_method_27_code 25 = .ok (.invokevirtual 231, 3) := by decide +kernel
theorem dd_SF_saved_28 : decode prog_1_method_27_code 28 = .ok (.aload_n 0, 1) := by decide +kernel
theorem dd_SF_saved_29 : decode prog_1_method_27_code 29 = .ok (.getfield 12, 3) := by decide +kernel
theorem dd_SF_saved_32 : decode prog_1_method_27_code 32 = .ok (.getfield 222, 3) := by decide +kernel
theorem dd_SF_saved_35 : decode prog_1_method_27_code 35 = .ok (.iload_n 2, 1) := by decide +kernel
theorem dd_SF_saved_36 : decode prog_1_method_27_code 36 = .ok (.iload_n 3, 1) := by decide +kernel
theorem dd_SF_saved_37 : decode prog_1_method_27_code 37 = .ok (.invokevirtual 245, 3) := by decide +kernel
theorem dd_SF_saved_40 : decode prog_1_method_27_code 40 = .ok (.ireturn, 1) := by decide +kernel
def jx_SF_saved (p0 : Option Nat) (p1 : Int32) (p2 : Int32) (p3 : Int32) : sf_M (Int32) :=
  sf_bnd (jx_SF_isLeg p2 p3) fun x1 =>
  if x1 = 0 then (
  sf_ret (-1 : Int32)
  ) else (
  sf_bnd (sf_gR 0 0 p0) fun x3 =>
  sf_bnd (sf_gR 1 1 x3) fun x4 =>
  sf_bnd (sf_gR 0 0 p0) fun x5 =>
  sf_bnd (sf_gR 1 0 x5) fun x6 =>
  sf_bnd (sf_rc 10 x4 (jx_Ways_fillWithSingles x4 x6 p1)) fun _ =>
  sf_bnd (sf_gR 0 0 p0) fun x8 =>
  sf_bnd (sf_gR 1 1 x8) fun x9 =>
  sf_bnd (sf_rc 10 x9 (jx_Ways_savedBetween x9 p2 p3)) fun x10 =>
  sf_ret x10
  )
set_option maxRecDepth 20000 in
set_option maxHeartbeats 4000000 in
theorem ok_SF_saved (p0 : Option Nat) (p1 : Int32) (p2 : Int32) (p3 : Int32) : sf_Ok ({ cls := "SplitFares", name := "saved", desc := "(III)I" } : Jvm.MethodName) prog_1_method_27_code 4 (some .int) 5 [sf_rv p0, .int p1, .int p2, .int p3] (jx_SF_saved p0 p1 p2 p3) (fun r => some (.int r)) := by
  refine sf_Ok.of (env := [some (sf_rv p0), some (.int p1), some (.int p2), some (.int p3)]) (plainFor_of_name (by decide)) [false, false, false, false] (fun G => ⟨pk_r, pk_i, pk_i, pk_i, trivial⟩) (Nat.le_of_ble_eq_true rfl) rfl (fun X => ?_)
  unfold jx_SF_saved
  refine fp_iload_n (i := 2) (x := p2) dd_SF_saved_0 rfl rfl (fr_pc (pc' := 1) rfl ?_)
  refine fp_iload_n (i := 3) (x := p3) dd_SF_saved_1 rfl rfl (fr_pc (pc' := 2) rfl ?_)
  refine fr_callS (stk := []) (ok_SF_isLeg p2 p3) mt_SF_isLeg rfl rfl sw_397 sw_398 (by decide) (Nat.le_of_ble_eq_true rfl) dd_SF_saved_2 (fun x1 => fr_to (pc' := 5) (env' := [some (sf_rv p0), some (.int p1), some (.int p2), some (.int p3)]) (stk' := [.int x1]) rfl rfl rfl ?_)
  refine fr_if_ne (tgt := 10) dd_SF_saved_5 rfl (fun _ => ?_) (fun _ => ?_)
  · refine fr_pc (pc' := 8) rfl ?_
    refine fp_iconst (v := (-1 : Int32)) dd_SF_saved_8 (by decide) (fr_pc (pc' := 9) rfl ?_)
    exact fr_iret (v := (-1 : Int32)) rfl rfl dd_SF_saved_9
  · refine fp_aload_n (i := 0) (r := p0) dd_SF_saved_10 rfl rfl (fr_pc (pc' := 11) rfl ?_)
    refine fr_gR cl_0 0 (by decide) rfl sw_315 dd_SF_saved_11 (fun x3 => fr_pc (pc' := 14) rfl ?_)
    refine fr_gR cl_1 1 (by decide) rfl sw_194 dd_SF_saved_14 (fun x4 => fr_pc (pc' := 17) rfl ?_)
    refine fp_aload_n (i := 0) (r := p0) dd_SF_saved_17 rfl rfl (fr_pc (pc' := 18) rfl ?_)
    refine fr_gR cl_0 0 (by decide) rfl sw_315 dd_SF_saved_18 (fun x5 => fr_pc (pc' := 21) rfl ?_)
    refine fr_gR cl_1 0 (by decide) rfl sw_192 dd_SF_saved_21 (fun x6 => fr_pc (pc' := 24) rfl ?_)
    refine fp_iload_n (i := 1) (x := p1) dd_SF_saved_24 rfl rfl (fr_pc (pc' := 25) rfl ?_)
    refine fr_callV (stk := []) (As := [sf_rv x6, .int p1]) cl_10 (ok_Ways_fillWithSingles x4 x6 p1) mt_Ways_fillWithSingles rfl rfl sw_902 sw_903 sw_904 (by decide) (Nat.le_of_ble_eq_true rfl) dd_SF_saved_25 (fun u7 => fr_to (pc' := 28) (env' := [some (sf_rv p0), some (.int p1), some (.int p2), some (.int p3)]) (stk' := []) rfl rfl rfl ?_)
    refine fp_aload_n (i := 0) (r := p0) dd_SF_saved_28 rfl rfl (fr_pc (pc' := 29) rfl ?_)
    refine fr_gR cl_0 0 (by decide) rfl sw_315 dd_SF_saved_29 (fun x8 => fr_pc (pc' := 32) rfl ?_)
    refine fr_gR cl_1 1 (by decide) rfl sw_194 dd_SF_saved_32 (fun x9 => fr_pc (pc' := 35) rfl ?_)
    refine fp_iload_n (i := 2) (x := p2) dd_SF_saved_35 rfl rfl (fr_pc (pc' := 36) rfl ?_)
    refine fp_iload_n (i := 3) (x := p3) dd_SF_saved_36 rfl rfl (fr_pc (pc' := 37) rfl ?_)
    refine fr_callV (stk := []) (As := [.int p2, .int p3]) cl_10 (ok_Ways_savedBetween x9 p2 p3) mt_Ways_savedBetween rfl rfl sw_947 sw_948 sw_949 (by decide) (Nat.le_of_ble_eq_true rfl) dd_SF_saved_37 (fun x10 => fr_to (pc' := 40) (env' := [some (sf_rv p0), some (.int p1), some (.int p2), some (.int p3)]) (stk' := [.int x10]) rfl rfl rfl ?_)
    exact fr_iret (v := x10) rfl rfl dd_SF_saved_40
theorem mt_SF_bestTrain : sf_Mt ({ cls := "SplitFares", name := "bestTrain", desc := "(II)I" } : Jvm.MethodName) prog_1_method_28_code 7 (some .int) 2 := ⟨sw_954, sw_1, ⟨by decide, by decide, by decide +kernel⟩, by decide⟩
theorem dd_SF_bestTrain_0 : decode prog_1_method_28_code 0 = .ok (.iconst (-1), 1) := by decide +kernel
theorem dd_SF_bestTrain_1 : decode prog_1_method_28_code 1 = .ok (.istore_n 3, 1) := by decide +kernel
theorem dd_SF_bestTrain_2 : decode prog_1_method_28_code 2 = .ok (.iconst (-1), 1) := by decide +kernel
theorem dd_SF_bestTrain_3 : decode prog_1_method_28_code 3 = .ok (.istore 4, 2) := by decide +kernel
theorem dd_SF_bestTrain_5 : decode prog_1_method_28_code 5 = .ok (.iconst 0, 1) := by decide +kernel
theorem dd_SF_bestTrain_6 : decode prog_1_method_28_code 6 = .ok (.istore 5, 2) := by decide +kernel
theorem dd_SF_bestTrain_8 : decode prog_1_method_28_code 8 = .ok (.iload 5, 2) := by decide +kernel
theorem dd_SF_bestTrain_10 : decode prog_1_method_28_code 10 = .ok (.bipush 6, 2) := by decide +kernel
theorem dd_SF_bestTrain_12 : decode prog_1_method_28_code 12 = .ok (.if_icmp .ge 60, 3) := by decide +kernel
theorem dd_SF_bestTrain_15 : decode prog_1_method_28_code 15 = .ok (.aload_n 0, 1) := by decide +kernel
theorem dd_SF_bestTrain_16 : decode prog_1_method_28_code 16 = .ok (.getfield 12, 3) := by decide +kernel
theorem dd_SF_bestTrain_19 : decode prog_1_method_28_code 19 = .ok (.getfield 67, 3) := by decide +kernel
theorem dd_SF_bestTrain_22 : decode prog_1_method_28_code 22 = .ok (.iload 5, 2) := by decide +kernel
theorem dd_SF_bestTrain_24 : decode prog_1_method_28_code 24 = .ok (.invokevirtual 79, 3) := by decide +kernel
theorem dd_SF_bestTrain_27 : decode prog_1_method_28_code 27 = .ok (.ifCond .eq 45, 3) := by decide +kernel
theorem dd_SF_bestTrain_30 : decode prog_1_method_28_code 30 = .ok (.aload_n 0, 1) := by decide +kernel
theorem dd_SF_bestTrain_31 : decode prog_1_method_28_code 31 = .ok (.iload 5, 2) := by decide +kernel
theorem dd_SF_bestTrain_33 : decode prog_1_method_28_code 33 = .ok (.iload_n 1, 1) := by decide +kernel
theorem dd_SF_bestTrain_34 : decode prog_1_method_28_code 34 = .ok (.iload_n 2, 1) := by decide +kernel
theorem dd_SF_bestTrain_35 : decode prog_1_method_28_code 35 = .ok (.bipush 7, 2) := by decide +kernel
theorem dd_SF_bestTrain_37 : decode prog_1_method_28_code 37 = .ok (.invokevirtual 218, 3) := by decide +kernel
theorem dd_SF_bestTrain_40 : decode prog_1_method_28_code 40 = .ok (.istore 6, 2) := by decide +kernel
theorem dd_SF_bestTrain_42 : decode prog_1_method_28_code 42 = .ok (.iload 6, 2) := by decide +kernel
theorem dd_SF_bestTrain_44 : decode prog_1_method_28_code 44 = .ok (.ifCond .lt 22, 3) := by decide +kernel
theorem dd_SF_bestTrain_47 : decode prog_1_method_28_code 47 = .ok (.iload_n 3, 1) := by decide +kernel
theorem dd_SF_bestTrain_48 : decode prog_1_method_28_code 48 = .ok (.iconst (-1), 1) := by decide +kernel
theorem dd_SF_bestTrain_49 : decode prog_1_method_28_code 49 = .ok (.if_icmp .eq 10, 3) := by decide +kernel
theorem dd_SF_bestTrain_52 : decode prog_1_method_28_code 52 = .ok (.iload 6, 2) := by decide +kernel
theorem dd_SF_bestTrain_54 : decode prog_1_method_28_code 54 = .ok (.iload 4, 2) := by decide +kernel
theorem dd_SF_bestTrain_56 : decode prog_1_method_28_code 56 = .ok (.if_icmp .ge 10, 3) := by decide +kernel
theorem dd_SF_bestTrain_59 : decode prog_1_method_28_code 59 = .ok (.iload 5, 2) := by decide +kernel
theorem dd_SF_bestTrain_61 : decode prog_1_method_28_code 61 = .ok (.istore_n 3, 1) := by decide +kernel
theorem dd_SF_bestTrain_62 : decode prog_1_method_28_code 62 = .ok (.iload 6, 2) := by decide +kernel
theorem dd_SF_bestTrain_64 : decode prog_1_method_28_code 64 = .ok (.istore 4, 2) := by decide +kernel
theorem dd_SF_bestTrain_66 : decode prog_1_method_28_code 66 = .ok (.iinc 5 1, 3) := by decide +kernel
theorem dd_SF_bestTrain_69 : decode prog_1_method_28_code 69 = .ok (.goto (-61), 3) := by decide +kernel
theorem dd_SF_bestTrain_72 : decode prog_1_method_28_code 72 = .ok (.iload_n 3, 1) := by decide +kernel
theorem dd_SF_bestTrain_73 : decode prog_1_method_28_code 73 = .ok (.ireturn, 1) := by decide +kernel
def jx_SF_bestTrain (p0 : Option Nat) (p1 : Int32) (p2 : Int32) : sf_M (Int32) :=
  sf_bnd (sf_loop (β := (Int32 × Int32 × Int32)) (γ := (Int32)) (fun b1 =>
  if (6 : Int32) ≤ b1.2.2 then (
  sf_ret (.inr b1.1)
  ) else (
  sf_bnd (sf_gR 0 0 p0) fun x3 =>
  sf_bnd (sf_gR 1 0 x3) fun x4 =>
  sf_bnd (sf_rc 4 x4 (jx_Office_hasTrain x4 b1.2.2)) fun x5 =>
  if x5 = 0 then (
  sf_ret (.inr b1.1)
  ) else (
  sf_bnd (sf_rc 0 p0 (jx_SF_leastOn p0 b1.2.2 p1 p2 (7 : Int32))) fun x7 =>
  if x7 < 0 then (
  sf_bnd (sf_ret (b1.2.2 + (1 : Int32))) fun y9 =>
  sf_ret (.inl (b1.1, b1.2.1, y9))
  ) else (
  if b1.1 = (-1 : Int32) then (
  sf_bnd (sf_ret (b1.2.2 + (1 : Int32))) fun y11 =>
  sf_ret (.inl (b1.2.2, x7, y11))
  ) else (
  if b1.2.1 ≤ x7 then (
  sf_bnd (sf_ret (b1.2.2 + (1 : Int32))) fun y13 =>
  sf_ret (.inl (b1.1, b1.2.1, y13))
  ) else (
  sf_bnd (sf_ret (b1.2.2 + (1 : Int32))) fun y14 =>
  sf_ret (.inl (b1.2.2, x7, y14))
  )
  )
  )
  )
  )
  ) sf_fuel ((-1 : Int32), (-1 : Int32), (0 : Int32))) (fun e15 =>
  sf_ret e15
  )
set_option maxRecDepth 20000 in
set_option maxHeartbeats 4000000 in
theorem ok_SF_bestTrain (p0 : Option Nat) (p1 : Int32) (p2 : Int32) : sf_Ok ({ cls := "SplitFares", name := "bestTrain", desc := "(II)I" } : Jvm.MethodName) prog_1_method_28_code 7 (some .int) 6 [sf_rv p0, .int p1, .int p2] (jx_SF_bestTrain p0 p1 p2) (fun r => some (.int r)) := by
  refine sf_Ok.of (env := [some (sf_rv p0), some (.int p1), some (.int p2), none, none, none, none]) (plainFor_of_name (by decide)) [false, false, false] (fun G => ⟨pk_r, pk_i, pk_i, trivial⟩) (Nat.le_of_ble_eq_true rfl) rfl (fun X => ?_)
  unfold jx_SF_bestTrain
  refine fp_iconst (v := (-1 : Int32)) dd_SF_bestTrain_0 (by decide) (fr_pc (pc' := 1) rfl ?_)
  refine fp_istore_n (i := 3) dd_SF_bestTrain_1 rfl (Nat.le_of_ble_eq_true rfl) (fun _ => c1_i rfl) (fr_to (pc' := 2) (env' := [some (sf_rv p0), some (.int p1), some (.int p2), some (.int (-1 : Int32)), none, none, none]) (stk' := []) rfl rfl rfl ?_)
  refine fp_iconst (v := (-1 : Int32)) dd_SF_bestTrain_2 (by decide) (fr_pc (pc' := 3) rfl ?_)
  refine fp_istore (i := 4) dd_SF_bestTrain_3 (Nat.le_of_ble_eq_true rfl) (fun _ => c1_i rfl) (fr_to (pc' := 5) (env' := [some (sf_rv p0), some (.int p1), some (.int p2), some (.int (-1 : Int32)), some (.int (-1 : Int32)), none, none]) (stk' := []) rfl rfl rfl ?_)
  refine fp_iconst (v := (0 : Int32)) dd_SF_bestTrain_5 (by decide) (fr_pc (pc' := 6) rfl ?_)
  refine fp_istore (i := 5) dd_SF_bestTrain_6 (Nat.le_of_ble_eq_true rfl) (fun _ => c1_i rfl) (fr_to (pc' := 8) (env' := [some (sf_rv p0), some (.int p1), some (.int p2), some (.int (-1 : Int32)), some (.int (-1 : Int32)), some (.int (0 : Int32)), none]) (stk' := []) rfl rfl rfl ?_)
  refine fr_to (pc' := 8) (env' := [some (sf_rv p0), some (.int p1), some (.int p2), some (.int (-1 : Int32)), some (.int (-1 : Int32)), some (.int (0 : Int32)), none]) (stk' := []) rfl rfl rfl ?_
  refine fr_bnd (l1 := (fun (e15 : (Int32)) => sf_p 72 [some (sf_rv p0), some (.int p1), some (.int p2), some (.int e15), none, none, none] [])) (fr_loop (Lb := (fun (b1 : (Int32 × Int32 × Int32)) => sf_p 8 [some (sf_rv p0), some (.int p1), some (.int p2), some (.int b1.1), some (.int b1.2.1), some (.int b1.2.2), none] [])) (fun b1 => ?_) _ _) (fun e15 => ?_)
  · refine fp_iload (i := 5) (x := b1.2.2) dd_SF_bestTrain_8 rfl (fr_pc (pc' := 10) rfl ?_)
    refine fp_bipush (v := (6 : Int32)) dd_SF_bestTrain_10 (by decide) (fr_pc (pc' := 12) rfl ?_)
    refine fr_icmp_ge (tgt := 72) dd_SF_bestTrain_12 rfl (fun _ => ?_) (fun _ => ?_)
    · refine fr_wk [true, true, true, true, false, false, false] ?_
      exact fr_ret rfl
    · refine fr_pc (pc' := 15) rfl ?_
      refine fp_aload_n (i := 0) (r := p0) dd_SF_bestTrain_15 rfl rfl (fr_pc (pc' := 16) rfl ?_)
      refine fr_gR cl_0 0 (by decide) rfl sw_315 dd_SF_bestTrain_16 (fun x3 => fr_pc (pc' := 19) rfl ?_)
      refine fr_gR cl_1 0 (by decide) rfl sw_192 dd_SF_bestTrain_19 (fun x4 => fr_pc (pc' := 22) rfl ?_)
      refine fp_iload (i := 5) (x := b1.2.2) dd_SF_bestTrain_22 rfl (fr_pc (pc' := 24) rfl ?_)
      refine fr_callV (stk := []) (As := [.int b1.2.2]) cl_4 (ok_Office_hasTrain x4 b1.2.2) mt_Office_hasTrain rfl rfl sw_386 sw_387 sw_388 (by decide) (Nat.le_of_ble_eq_true rfl) dd_SF_bestTrain_24 (fun x5 => fr_to (pc' := 27) (env' := [some (sf_rv p0), some (.int p1), some (.int p2), some (.int b1.1), some (.int b1.2.1), some (.int b1.2.2), none]) (stk' := [.int x5]) rfl rfl rfl ?_)
      refine fr_if_eq (tgt := 72) dd_SF_bestTrain_27 rfl (fun _ => ?_) (fun _ => ?_)
      · refine fr_wk [true, true, true, true, false, false, false] ?_
        exact fr_ret rfl
      · refine fr_pc (pc' := 30) rfl ?_
        refine fp_aload_n (i := 0) (r := p0) dd_SF_bestTrain_30 rfl rfl (fr_pc (pc' := 31) rfl ?_)
        refine fp_iload (i := 5) (x := b1.2.2) dd_SF_bestTrain_31 rfl (fr_pc (pc' := 33) rfl ?_)
        refine fp_iload_n (i := 1) (x := p1) dd_SF_bestTrain_33 rfl rfl (fr_pc (pc' := 34) rfl ?_)
        refine fp_iload_n (i := 2) (x := p2) dd_SF_bestTrain_34 rfl rfl (fr_pc (pc' := 35) rfl ?_)
        refine fp_bipush (v := (7 : Int32)) dd_SF_bestTrain_35 (by decide) (fr_pc (pc' := 37) rfl ?_)
        refine fr_callV (stk := []) (As := [.int b1.2.2, .int p1, .int p2, .int (7 : Int32)]) cl_0 (ok_SF_leastOn p0 b1.2.2 p1 p2 (7 : Int32)) mt_SF_leastOn rfl rfl sw_898 sw_900 sp_21 (by decide) (Nat.le_of_ble_eq_true rfl) dd_SF_bestTrain_37 (fun x7 => fr_to (pc' := 40) (env' := [some (sf_rv p0), some (.int p1), some (.int p2), some (.int b1.1), some (.int b1.2.1), some (.int b1.2.2), none]) (stk' := [.int x7]) rfl rfl rfl ?_)
        refine fp_istore (i := 6) dd_SF_bestTrain_40 (Nat.le_of_ble_eq_true rfl) (fun _ => c1_i rfl) (fr_to (pc' := 42) (env' := [some (sf_rv p0), some (.int p1), some (.int p2), some (.int b1.1), some (.int b1.2.1), some (.int b1.2.2), some (.int x7)]) (stk' := []) rfl rfl rfl ?_)
        refine fp_iload (i := 6) (x := x7) dd_SF_bestTrain_42 rfl (fr_pc (pc' := 44) rfl ?_)
        refine fr_if_lt (tgt := 66) dd_SF_bestTrain_44 rfl (fun _ => ?_) (fun _ => ?_)
        · refine fr_niinc (i := 5) (x := b1.2.2) (w := (1 : Int32)) dd_SF_bestTrain_66 rfl (by decide) (Nat.le_of_ble_eq_true rfl) (fun _ => c1_i rfl) (fun y9 => fr_to (pc' := 69) (env' := [some (sf_rv p0), some (.int p1), some (.int p2), some (.int b1.1), some (.int b1.2.1), some (.int y9), some (.int x7)]) (stk' := []) rfl rfl rfl ?_)
          refine fp_goto (tgt := 8) dd_SF_bestTrain_69 rfl ?_
          refine fr_wk [true, true, true, true, true, true, false] ?_
          exact fr_ret rfl
        · refine fr_pc (pc' := 47) rfl ?_
          refine fp_iload_n (i := 3) (x := b1.1) dd_SF_bestTrain_47 rfl rfl (fr_pc (pc' := 48) rfl ?_)
          refine fp_iconst (v := (-1 : Int32)) dd_SF_bestTrain_48 (by decide) (fr_pc (pc' := 49) rfl ?_)
          refine fr_icmp_eq (tgt := 59) dd_SF_bestTrain_49 rfl (fun _ => ?_) (fun _ => ?_)
          · refine fp_iload (i := 5) (x := b1.2.2) dd_SF_bestTrain_59 rfl (fr_pc (pc' := 61) rfl ?_)
            refine fp_istore_n (i := 3) dd_SF_bestTrain_61 rfl (Nat.le_of_ble_eq_true rfl) (fun _ => c1_i rfl) (fr_to (pc' := 62) (env' := [some (sf_rv p0), some (.int p1), some (.int p2), some (.int b1.2.2), some (.int b1.2.1), some (.int b1.2.2), some (.int x7)]) (stk' := []) rfl rfl rfl ?_)
            refine fp_iload (i := 6) (x := x7) dd_SF_bestTrain_62 rfl (fr_pc (pc' := 64) rfl ?_)
            refine fp_istore (i := 4) dd_SF_bestTrain_64 (Nat.le_of_ble_eq_true rfl) (fun _ => c1_i rfl) (fr_to (pc' := 66) (env' := [some (sf_rv p0), some (.int p1), some (.int p2), some (.int b1.2.2), some (.int x7), some (.int b1.2.2), some (.int x7)]) (stk' := []) rfl rfl rfl ?_)
            refine fr_niinc (i := 5) (x := b1.2.2) (w := (1 : Int32)) dd_SF_bestTrain_66 rfl (by decide) (Nat.le_of_ble_eq_true rfl) (fun _ => c1_i rfl) (fun y11 => fr_to (pc' := 69) (env' := [some (sf_rv p0), some (.int p1), some (.int p2), some (.int b1.2.2), some (.int x7), some (.int y11), some (.int x7)]) (stk' := []) rfl rfl rfl ?_)
            refine fp_goto (tgt := 8) dd_SF_bestTrain_69 rfl ?_
            refine fr_wk [true, true, true, true, true, true, false] ?_
            exact fr_ret rfl
          · refine fr_pc (pc' := 52) rfl ?_
            refine fp_iload (i := 6) (x := x7) dd_SF_bestTrain_52 rfl (fr_pc (pc' := 54) rfl ?_)
            refine fp_iload (i := 4) (x := b1.2.1) dd_SF_bestTrain_54 rfl (fr_pc (pc' := 56) rfl ?_)
            refine fr_icmp_ge (tgt := 66) dd_SF_bestTrain_56 rfl (fun _ => ?_) (fun _ => ?_)
            · refine fr_niinc (i := 5) (x := b1.2.2) (w := (1 : Int32)) dd_SF_bestTrain_66 rfl (by decide) (Nat.le_of_ble_eq_true rfl) (fun _ => c1_i rfl) (fun y13 => fr_to (pc' := 69) (env' := [some (sf_rv p0), some (.int p1), some (.int p2), some (.int b1.1), some (.int b1.2.1), some (.int y13), some (.int x7)]) (stk' := []) rfl rfl rfl ?_)
              refine fp_goto (tgt := 8) dd_SF_bestTrain_69 rfl ?_
              refine fr_wk [true, true, true, true, true, true, false] ?_
              exact fr_ret rfl
            · refine fr_pc (pc' := 59) rfl ?_
              refine fp_iload (i := 5) (x := b1.2.2) dd_SF_bestTrain_59 rfl (fr_pc (pc' := 61) rfl ?_)
              refine fp_istore_n (i := 3) dd_SF_bestTrain_61 rfl (Nat.le_of_ble_eq_true rfl) (fun _ => c1_i rfl) (fr_to (pc' := 62) (env' := [some (sf_rv p0), some (.int p1), some (.int p2), some (.int b1.2.2), some (.int b1.2.1), some (.int b1.2.2), some (.int x7)]) (stk' := []) rfl rfl rfl ?_)
              refine fp_iload (i := 6) (x := x7) dd_SF_bestTrain_62 rfl (fr_pc (pc' := 64) rfl ?_)
              refine fp_istore (i := 4) dd_SF_bestTrain_64 (Nat.le_of_ble_eq_true rfl) (fun _ => c1_i rfl) (fr_to (pc' := 66) (env' := [some (sf_rv p0), some (.int p1), some (.int p2), some (.int b1.2.2), some (.int x7), some (.int b1.2.2), some (.int x7)]) (stk' := []) rfl rfl rfl ?_)
              refine fr_niinc (i := 5) (x := b1.2.2) (w := (1 : Int32)) dd_SF_bestTrain_66 rfl (by decide) (Nat.le_of_ble_eq_true rfl) (fun _ => c1_i rfl) (fun y14 => fr_to (pc' := 69) (env' := [some (sf_rv p0), some (.int p1), some (.int p2), some (.int b1.2.2), some (.int x7), some (.int y14), some (.int x7)]) (stk' := []) rfl rfl rfl ?_)
              refine fp_goto (tgt := 8) dd_SF_bestTrain_69 rfl ?_
              refine fr_wk [true, true, true, true, true, true, false] ?_
              exact fr_ret rfl
  · refine fp_iload_n (i := 3) (x := e15) dd_SF_bestTrain_72 rfl rfl (fr_pc (pc' := 73) rfl ?_)
    exact fr_iret (v := e15) rfl rfl dd_SF_bestTrain_73
theorem mt_SF_mostSaved : sf_Mt ({ cls := "SplitFares", name := "mostSaved", desc := "(II)I" } : Jvm.MethodName) prog_1_method_29_code 8 (some .int) 2 := ⟨sw_958, sw_1, ⟨by decide, by decide, by decide +kernel⟩, by decide⟩
theorem dd_SF_mostSaved_0 : decode prog_1_method_29_code 0 = .ok (.aload_n 0, 1) := by decide +kernel
theorem dd_SF_mostSaved_1 : decode prog_1_method_29_code 1 = .ok (.getfield 12, 3) := by decide +kernel
theorem dd_SF_mostSaved_4 : decode prog_1_method_29_code 4 = .ok (.getfield 222, 3) := by decide +kernel
theorem dd_SF_mostSaved_7 : decode prog_1_method_29_code 7 = .ok (.aload_n 0, 1) := by decide +kernel
theorem dd_SF_mostSaved_8 : decode prog_1_method_29_code 8 = .ok (.getfield 12, 3) := by decide +kernel
theorem dd_SF_mostSaved_11 : decode prog_1_method_29_code 11 = .ok (.getfield 67, 3) := by decide +kernel
theorem dd_SF_mostSaved_14 : decode prog_1_method_29_code 14 = .ok (.iload_n 1, 1) := by decide +kernel
theorem dd_SF_mostSaved_15 : decode prog_1_method_29_code 15 = .ok (.invokevirtual 231, 3) := by decide +kernel
theorem dd_SF_mostSaved_18 : decode prog_1_method_29_code 18 = .ok (.iconst (-1), 1) := by decide +kernel
theorem dd_SF_mostSaved_19 : decode prog_1_method_29_code 19 = .ok (.istore_n 3, 1) := by decide +kernel
theorem dd_SF_mostSaved_20 : decode prog_1_method_29_code 20 = .ok (.iconst (-1), 1) := by decide +kernel
theorem dd_SF_mostSaved_21 : decode prog_1_method_29_code 21 = .ok (.istore 4, 2) := by decide +kernel
theorem dd_SF_mostSaved_23 : decode prog_1_method_29_code 23 = .ok (.iconst (-1), 1) := by decide +kernel
theorem dd_SF_mostSaved_24 : decode prog_1_method_29_code 24 = .ok (.istore 5, 2) := by decide +kernel
theorem dd_SF_mostSaved_26 : decode prog_1_method_29_code 26 = .ok (.iconst 0, 1) := by decide +kernel
theorem dd_SF_mostSaved_27 : decode prog_1_method_29_code 27 = .ok (.istore 6, 2) := by decide +kernel
theorem dd_SF_mostSaved_29 : decode prog_1_method_29_code 29 = .ok (.iload 6, 2) := by decide +kernel
theorem dd_SF_mostSaved_31 : decode prog_1_method_29_code 31 = .ok (.bipush 64, 2) := by decide +kernel
theorem dd_SF_mostSaved_33 : decode prog_1_method_29_code 33 = .ok (.if_icmp .ge 54, 3) := by decide +kernel
theorem dd_SF_mostSaved_36 : decode prog_1_method_29_code 36 = .ok (.aload_n 0, 1) := by decide +kernel
theorem dd_SF_mostSaved_37 : decode prog_1_method_29_code 37 = .ok (.getfield 12, 3) := by decide +kernel
theorem dd_SF_mostSaved_40 : decode prog_1_method_29_code 40 = .ok (.getfield 222, 3) := by decide +kernel
theorem dd_SF_mostSaved_43 : decode prog_1_method_29_code 43 = .ok (.iload 6, 2) := by decide +kernel
theorem dd_SF_mostSaved_45 : decode prog_1_method_29_code 45 = .ok (.bipush 8, 2) := by decide +kernel
theorem dd_SF_mostSaved_47 : decode prog_1_method_29_code 47 = .ok (.idiv, 1) := by decide +kernel
theorem dd_SF_mostSaved_48 : decode prog_1_method_29_code 48 = .ok (.iload 6, 2) := by decide +kernel
theorem dd_SF_mostSaved_50 : decode prog_1_method_29_code 50 = .ok (.bipush 8, 2) := by decide +kernel
theorem dd_SF_mostSaved_52 : decode prog_1_method_29_code 52 = .ok (.irem, 1) := by decide +kernel
theorem dd_SF_mostSaved_53 : decode prog_1_method_29_code 53 = .ok (.invokevirtual 245, 3) := by decide +kernel
theorem dd_SF_mostSaved_56 : decode prog_1_method_29_code 56 = .ok (.istore 7, 2) := by decide +kernel
theorem dd_SF_mostSaved_58 : decode prog_1_method_29_code 58 = .ok (.iload 7, 2) := by decide +kernel
theorem dd_SF_mostSaved_60 : decode prog_1_method_29_code 60 = .ok (.iload_n 3, 1) := by decide +kernel
theorem dd_SF_mostSaved_61 : decode prog_1_method_29_code 61 = .ok (.if_icmp .le 20, 3) := by decide +kernel
theorem dd_SF_mostSaved_64 : decode prog_1_method_29_code 64 = .ok (.iload 7, 2) := by decide +kernel
theorem dd_SF_mostSaved_66 : decode prog_1_method_29_code 66 = .ok (.istore_n 3, 1) := by decide +kernel
theorem dd_SF_mostSaved_67 : decode prog_1_method_29_code 67 = .ok (.iload 6, 2) := by decide +kernel
theorem dd_SF_mostSaved_69 : decode prog_1_method_29_code 69 = .ok (.bipush 8, 2) := by decide +kernel
theorem dd_SF_mostSaved_71 : decode prog_1_method_29_code 71 = .ok (.idiv, 1) := by decide +kernel
theorem dd_SF_mostSaved_72 : decode prog_1_method_29_code 72 = .ok (.istore 4, 2) := by decide +kernel
theorem dd_SF_mostSaved_74 : decode prog_1_method_29_code 74 = .ok (.iload 6, 2) := by decide +kernel
theorem dd_SF_mostSaved_76 : decode prog_1_method_29_code 76 = .ok (.bipush 8, 2) := by decide +kernel
theorem dd_SF_mostSaved_78 : decode prog_1_method_29_code 78 = .ok (.irem, 1) := by decide +kernel
theorem dd_SF_mostSaved_79 : decode prog_1_method_29_code 79 = .ok (.istore 5, 2) := by decide +kernel
theorem dd_SF_mostSaved_81 : decode prog_1_method_29_code 81 = .ok (.iinc 6 1, 3) := by decide +kernel
theorem dd_SF_mostSaved_84 : decode prog_1_method_29_code 84 = .ok (.goto (-55), 3) := by decide +kernel
theorem dd_SF_mostSaved_87 : decode prog_1_method_29_code 87 = .ok (.iload_n 2, 1) := by decide +kernel
theorem dd_SF_mostSaved_88 : decode prog_1_method_29_code 88 = .ok (.ifCond .ne 5, 3) := by decide +kernel
theorem dd_SF_mostSaved_91 : decode prog_1_method_29_code 91 = .ok (.iload_n 3, 1) := by decide +kernel
theorem dd_SF_mostSaved_92 : decode prog_1_method_29_code 92 = .ok (.ireturn, 1) := by decide +kernel
theorem dd_SF_mostSaved_93 : decode prog_1_method_29_code 93 = .ok (.iload_n 2, 1) := by decide +kernel
theorem dd_SF_mostSaved_94 : decode prog_1_method_29_code 94 = .ok (.iconst 1, 1) := by decide +kernel
theorem dd_SF_mostSaved_95 : decode prog_1_method_29_code 95 = .ok (.if_icmp .ne 6, 3) := by decide +kernel
theorem dd_SF_mostSaved_98 : decode prog_1_method_29_code 98 = .ok (.iload 4, 2) := by decide +kernel
theorem dd_SF_mostSaved_100 : decode prog_1_method_29_code 100 = .ok (.ireturn, 1) := by decide +kernel
theorem dd_SF_mostSaved_101 : decode prog_1_method_29_code 101 = .ok (.iload_n 2, 1) := by decide +kernel
theorem dd_SF_mostSaved_102 : decode prog_1_method_29_code 102 = .ok (.iconst 2, 1) := by decide +kernel
theorem dd_SF_mostSaved_103 : decode prog_1_method_29_code 103 = .ok (.if_icmp .ne 8, 3) := by decide +kernel
theorem dd_SF_mostSaved_106 : decode prog_1_method_29_code 106 = .ok (.iload 5, 2) := by decide +kernel
theorem dd_SF_mostSaved_108 : decode prog_1_method_29_code 108 = .ok (.goto 4, 3) := by decide +kernel
theorem dd_SF_mostSaved_111 : decode prog_1_method_29_code 111 = .ok (.iconst (-1), 1) := by decide +kernel
theorem dd_SF_mostSaved_112 : decode prog_1_method_29_code 112 = .ok (.ireturn, 1) := by decide +kernel
def jx_SF_mostSaved (p0 : Option Nat) (p1 : Int32) (p2 : Int32) : sf_M (Int32) :=
  sf_bnd (sf_gR 0 0 p0) fun x1 =>
  sf_bnd (sf_gR 1 1 x1) fun x2 =>
  sf_bnd (sf_gR 0 0 p0) fun x3 =>
  sf_bnd (sf_gR 1 0 x3) fun x4 =>
  sf_bnd (sf_rc 10 x2 (jx_Ways_fillWithSingles x2 x4 p1)) fun _ =>
  sf_bnd (sf_loop (β := (Int32 × Int32 × Int32 × Int32)) (γ := (Int32 × Int32 × Int32)) (fun b6 =>
  if (64 : Int32) ≤ b6.2.2.2 then (
  sf_ret (.inr (b6.1, b6.2.1, b6.2.2.1))
  ) else (
  sf_bnd (sf_gR 0 0 p0) fun x8 =>
  sf_bnd (sf_gR 1 1 x8) fun x9 =>
  sf_bnd (sf_rc 10 x9 (jx_Ways_savedBetween x9 (b6.2.2.2 / (8 : Int32)) (b6.2.2.2 - b6.2.2.2 / (8 : Int32) * (8 : Int32)))) fun x10 =>
  if x10 ≤ b6.1 then (
  sf_bnd (sf_ret (b6.2.2.2 + (1 : Int32))) fun y12 =>
  sf_ret (.inl (b6.1, b6.2.1, b6.2.2.1, y12))
  ) else (
  sf_bnd (sf_ret ((b6.2.2.2 / (8 : Int32)))) fun y13 =>
  sf_bnd (sf_ret ((b6.2.2.2 - b6.2.2.2 / (8 : Int32) * (8 : Int32)))) fun y14 =>
  sf_bnd (sf_ret (b6.2.2.2 + (1 : Int32))) fun y15 =>
  sf_ret (.inl (x10, y13, y14, y15))
  )
  )
  ) sf_fuel ((-1 : Int32), (-1 : Int32), (-1 : Int32), (0 : Int32))) (fun e16 =>
  if p2 = 0 then (
  sf_ret e16.1
  ) else (
  if p2 = (1 : Int32) then (
  sf_ret e16.2.1
  ) else (
  if p2 = (2 : Int32) then (
  sf_ret e16.2.2
  ) else (
  sf_ret (-1 : Int32)
  )
  )
  )
  )
set_option maxRecDepth 20000 in
set_option maxHeartbeats 4000000 in
theorem ok_SF_mostSaved (p0 : Option Nat) (p1 : Int32) (p2 : Int32) : sf_Ok ({ cls := "SplitFares", name := "mostSaved", desc := "(II)I" } : Jvm.MethodName) prog_1_method_29_code 8 (some .int) 5 [sf_rv p0, .int p1, .int p2] (jx_SF_mostSaved p0 p1 p2) (fun r => some (.int r)) := by
  refine sf_Ok.of (env := [some (sf_rv p0), some (.int p1), some (.int p2), none, none, none, none, none]) (plainFor_of_name (by decide)) [false, false, false] (fun G => ⟨pk_r, pk_i, pk_i, trivial⟩) (Nat.le_of_ble_eq_true rfl) rfl (fun X => ?_)
  unfold jx_SF_mostSaved
  refine fp_aload_n (i := 0) (r := p0) dd_SF_mostSaved_0 rfl rfl (fr_pc (pc' := 1) rfl ?_)
  refine fr_gR cl_0 0 (by decide) rfl sw_315 dd_SF_mostSaved_1 (fun x1 => fr_pc (pc' := 4) rfl ?_)
  refine fr_gR cl_1 1 (by decide) rfl sw_194 dd_SF_mostSaved_4 (fun x2 => fr_pc (pc' := 7) rfl ?_)
  refine fp_aload_n (i := 0) (r := p0) dd_SF_mostSaved_7 rfl rfl (fr_pc (pc' := 8) rfl ?_)
  refine fr_gR cl_0 0 (by decide) rfl sw_315 dd_SF_mostSaved_8 (fun x3 => fr_pc (pc' := 11) rfl ?_)
  refine fr_gR cl_1 0 (by decide) rfl sw_192 dd_SF_mostSaved_11 (fun x4 => fr_pc (pc' := 14) rfl ?_)
  refine fp_iload_n (i := 1) (x := p1) dd_SF_mostSaved_14 rfl rfl (fr_pc (pc' := 15) rfl ?_)
  refine fr_callV (stk := []) (As := [sf_rv x4, .int p1]) cl_10 (ok_Ways_fillWithSingles x2 x4 p1) mt_Ways_fillWithSingles rfl rfl sw_902 sw_903 sw_904 (by decide) (Nat.le_of_ble_eq_true rfl) dd_SF_mostSaved_15 (fun u5 => fr_to (pc' := 18) (env' := [some (sf_rv p0), some (.int p1), some (.int p2), none, none, none, none, none]) (stk' := []) rfl rfl rfl ?_)
  refine fp_iconst (v := (-1 : Int32)) dd_SF_mostSaved_18 (by decide) (fr_pc (pc' := 19) rfl ?_)
  refine fp_istore_n (i := 3) dd_SF_mostSaved_19 rfl (Nat.le_of_ble_eq_true rfl) (fun _ => c1_i rfl) (fr_to (pc' := 20) (env' := [some (sf_rv p0), some (.int p1), some (.int p2), some (.int (-1 : Int32)), none, none, none, none]) (stk' := []) rfl rfl rfl ?_)
  refine fp_iconst (v := (-1 : Int32)) dd_SF_mostSaved_20 (by decide) (fr_pc (pc' := 21) rfl ?_)
  refine fp_istore (i := 4) dd_SF_mostSaved_21 (Nat.le_of_ble_eq_true rfl) (fun _ => c1_i rfl) (fr_to (pc' := 23) (env' := [some (sf_rv p0), some (.int p1), some (.int p2), some (.int (-1 : Int32)), some (.int (-1 : Int32)), none, none, none]) (stk' := []) rfl rfl rfl ?_)
  refine fp_iconst (v := (-1 : Int32)) dd_SF_mostSaved_23 (by decide) (fr_pc (pc' := 24) rfl ?_)
  refine fp_istore (i := 5) dd_SF_mostSaved_24 (Nat.le_of_ble_eq_true rfl) (fun _ => c1_i rfl) (fr_to (pc' := 26) (env' := [some (sf_rv p0), some (.int p1), some (.int p2), some (.int (-1 : Int32)), some (.int (-1 : Int32)), some (.int (-1 : Int32)), none, none]) (stk' := []) rfl rfl rfl ?_)
  refine fp_iconst (v := (0 : Int32)) dd_SF_mostSaved_26 (by decide) (fr_pc (pc' := 27) rfl ?_)
  refine fp_istore (i := 6) dd_SF_mostSaved_27 (Nat.le_of_ble_eq_true rfl) (fun _ => c1_i rfl) (fr_to (pc' := 29) (env' := [some (sf_rv p0), some (.int p1), some (.int p2), some (.int (-1 : Int32)), some (.int (-1 : Int32)), some (.int (-1 : Int32)), some (.int (0 : Int32)), none]) (stk' := []) rfl rfl rfl ?_)
  refine fr_to (pc' := 29) (env' := [some (sf_rv p0), some (.int p1), some (.int p2), some (.int (-1 : Int32)), some (.int (-1 : Int32)), some (.int (-1 : Int32)), some (.int (0 : Int32)), none]) (stk' := []) rfl rfl rfl ?_
  refine fr_bnd (l1 := (fun (e16 : (Int32 × Int32 × Int32)) => sf_p 87 [some (sf_rv p0), some (.int p1), some (.int p2), some (.int e16.1), some (.int e16.2.1), some (.int e16.2.2), none, none] [])) (fr_loop (Lb := (fun (b6 : (Int32 × Int32 × Int32 × Int32)) => sf_p 29 [some (sf_rv p0), some (.int p1), some (.int p2), some (.int b6.1), some (.int b6.2.1), some (.int b6.2.2.1), some (.int b6.2.2.2), none] [])) (fun b6 => ?_) _ _) (fun e16 => ?_)
  · refine fp_iload (i := 6) (x := b6.2.2.2) dd_SF_mostSaved_29 rfl (fr_pc (pc' := 31) rfl ?_)
    refine fp_bipush (v := (64 : Int32)) dd_SF_mostSaved_31 (by decide) (fr_pc (pc' := 33) rfl ?_)
    refine fr_icmp_ge (tgt := 87) dd_SF_mostSaved_33 rfl (fun _ => ?_) (fun _ => ?_)
    · refine fr_wk [true, true, true, true, true, true, false, false] ?_
      exact fr_ret rfl
    · refine fr_pc (pc' := 36) rfl ?_
      refine fp_aload_n (i := 0) (r := p0) dd_SF_mostSaved_36 rfl rfl (fr_pc (pc' := 37) rfl ?_)
      refine fr_gR cl_0 0 (by decide) rfl sw_315 dd_SF_mostSaved_37 (fun x8 => fr_pc (pc' := 40) rfl ?_)
      refine fr_gR cl_1 1 (by decide) rfl sw_194 dd_SF_mostSaved_40 (fun x9 => fr_pc (pc' := 43) rfl ?_)
      refine fp_iload (i := 6) (x := b6.2.2.2) dd_SF_mostSaved_43 rfl (fr_pc (pc' := 45) rfl ?_)
      refine fp_bipush (v := (8 : Int32)) dd_SF_mostSaved_45 (by decide) (fr_pc (pc' := 47) rfl ?_)
      refine fp_idiv0 dd_SF_mostSaved_47 (by decide) (fr_pc (pc' := 48) rfl ?_)
      refine fp_iload (i := 6) (x := b6.2.2.2) dd_SF_mostSaved_48 rfl (fr_pc (pc' := 50) rfl ?_)
      refine fp_bipush (v := (8 : Int32)) dd_SF_mostSaved_50 (by decide) (fr_pc (pc' := 52) rfl ?_)
      refine fp_irem0 dd_SF_mostSaved_52 (by decide) (fr_pc (pc' := 53) rfl ?_)
      refine fr_callV (stk := []) (As := [.int (b6.2.2.2 / (8 : Int32)), .int (b6.2.2.2 - b6.2.2.2 / (8 : Int32) * (8 : Int32))]) cl_10 (ok_Ways_savedBetween x9 (b6.2.2.2 / (8 : Int32)) (b6.2.2.2 - b6.2.2.2 / (8 : Int32) * (8 : Int32))) mt_Ways_savedBetween rfl rfl sw_947 sw_948 sw_949 (by decide) (Nat.le_of_ble_eq_true rfl) dd_SF_mostSaved_53 (fun x10 => fr_to (pc' := 56) (env' := [some (sf_rv p0), some (.int p1), some (.int p2), some (.int b6.1), some (.int b6.2.1), some (.int b6.2.2.1), some (.int b6.2.2.2), none]) (stk' := [.int x10]) rfl rfl rfl ?_)
      refine fp_istore (i := 7) dd_SF_mostSaved_56 (Nat.le_of_ble_eq_true rfl) (fun _ => c1_i rfl) (fr_to (pc' := 58) (env' := [some (sf_rv p0), some (.int p1), some (.int p2), some (.int b6.1), some (.int b6.2.1), some (.int b6.2.2.1), some (.int b6.2.2.2), some (.int x10)]) (stk' := []) rfl rfl rfl ?_)
      refine fp_iload (i := 7) (x := x10) dd_SF_mostSaved_58 rfl (fr_pc (pc' := 60) rfl ?_)
      refine fp_iload_n (i := 3) (x := b6.1) dd_SF_mostSaved_60 rfl rfl (fr_pc (pc' := 61) rfl ?_)
      refine fr_icmp_le (tgt := 81) dd_SF_mostSaved_61 rfl (fun _ => ?_) (fun _ => ?_)
      · refine fr_niinc (i := 6) (x := b6.2.2.2) (w := (1 : Int32)) dd_SF_mostSaved_81 rfl (by decide) (Nat.le_of_ble_eq_true rfl) (fun _ => c1_i rfl) (fun y12 => fr_to (pc' := 84) (env' := [some (sf_rv p0), some (.int p1), some (.int p2), some (.int b6.1), some (.int b6.2.1), some (.int b6.2.2.1), some (.int y12), some (.int x10)]) (stk' := []) rfl rfl rfl ?_)
        refine fp_goto (tgt := 29) dd_SF_mostSaved_84 rfl ?_
        refine fr_wk [true, true, true, true, true, true, true, false] ?_
        exact fr_ret rfl
      · refine fr_pc (pc' := 64) rfl ?_
        refine fp_iload (i := 7) (x := x10) dd_SF_mostSaved_64 rfl (fr_pc (pc' := 66) rfl ?_)
        refine fp_istore_n (i := 3) dd_SF_mostSaved_66 rfl (Nat.le_of_ble_eq_true rfl) (fun _ => c1_i rfl) (fr_to (pc' := 67) (env' := [some (sf_rv p0), some (.int p1), some (.int p2), some (.int x10), some (.int b6.2.1), some (.int b6.2.2.1), some (.int b6.2.2.2), some (.int x10)]) (stk' := []) rfl rfl rfl ?_)
        refine fp_iload (i := 6) (x := b6.2.2.2) dd_SF_mostSaved_67 rfl (fr_pc (pc' := 69) rfl ?_)
        refine fp_bipush (v := (8 : Int32)) dd_SF_mostSaved_69 (by decide) (fr_pc (pc' := 71) rfl ?_)
        refine fp_idiv0 dd_SF_mostSaved_71 (by decide) (fr_pc (pc' := 72) rfl ?_)
        refine fr_nistore (i := 4) dd_SF_mostSaved_72 (Nat.le_of_ble_eq_true rfl) (fun _ => c1_i rfl) (fun y13 => fr_to (pc' := 74) (env' := [some (sf_rv p0), some (.int p1), some (.int p2), some (.int x10), some (.int y13), some (.int b6.2.2.1), some (.int b6.2.2.2), some (.int x10)]) (stk' := []) rfl rfl rfl ?_)
        refine fp_iload (i := 6) (x := b6.2.2.2) dd_SF_mostSaved_74 rfl (fr_pc (pc' := 76) rfl ?_)
        refine fp_bipush (v := (8 : Int32)) dd_SF_mostSaved_76 (by decide) (fr_pc (pc' := 78) rfl ?_)
        refine fp_irem0 dd_SF_mostSaved_78 (by decide) (fr_pc (pc' := 79) rfl ?_)
        refine fr_nistore (i := 5) dd_SF_mostSaved_79 (Nat.le_of_ble_eq_true rfl) (fun _ => c1_i rfl) (fun y14 => fr_to (pc' := 81) (env' := [some (sf_rv p0), some (.int p1), some (.int p2), some (.int x10), some (.int y13), some (.int y14), some (.int b6.2.2.2), some (.int x10)]) (stk' := []) rfl rfl rfl ?_)
        refine fr_niinc (i := 6) (x := b6.2.2.2) (w := (1 : Int32)) dd_SF_mostSaved_81 rfl (by decide) (Nat.le_of_ble_eq_true rfl) (fun _ => c1_i rfl) (fun y15 => fr_to (pc' := 84) (env' := [some (sf_rv p0), some (.int p1), some (.int p2), some (.int x10), some (.int y13), some (.int y14), some (.int y15), some (.int x10)]) (stk' := []) rfl rfl rfl ?_)
        refine fp_goto (tgt := 29) dd_SF_mostSaved_84 rfl ?_
        refine fr_wk [true, true, true, true, true, true, true, false] ?_
        exact fr_ret rfl
  · refine fp_iload_n (i := 2) (x := p2) dd_SF_mostSaved_87 rfl rfl (fr_pc (pc' := 88) rfl ?_)
    refine fr_if_ne (tgt := 93) dd_SF_mostSaved_88 rfl (fun _ => ?_) (fun _ => ?_)
    · refine fr_pc (pc' := 91) rfl ?_
      refine fp_iload_n (i := 3) (x := e16.1) dd_SF_mostSaved_91 rfl rfl (fr_pc (pc' := 92) rfl ?_)
      exact fr_iret (v := e16.1) rfl rfl dd_SF_mostSaved_92
    · refine fp_iload_n (i := 2) (x := p2) dd_SF_mostSaved_93 rfl rfl (fr_pc (pc' := 94) rfl ?_)
      refine fp_iconst (v := (1 : Int32)) dd_SF_mostSaved_94 (by decide) (fr_pc (pc' := 95) rfl ?_)
      refine fr_icmp_ne (tgt := 101) dd_SF_mostSaved_95 rfl (fun _ => ?_) (fun _ => ?_)
      · refine fr_pc (pc' := 98) rfl ?_
        refine fp_iload (i := 4) (x := e16.2.1) dd_SF_mostSaved_98 rfl (fr_pc (pc' := 100) rfl ?_)
        exact fr_iret (v := e16.2.1) rfl rfl dd_SF_mostSaved_100
      · refine fp_iload_n (i := 2) (x := p2) dd_SF_mostSaved_101 rfl rfl (fr_pc (pc' := 102) rfl ?_)
        refine fp_iconst (v := (2 : Int32)) dd_SF_mostSaved_102 (by decide) (fr_pc (pc' := 103) rfl ?_)
        refine fr_icmp_ne (tgt := 111) dd_SF_mostSaved_103 rfl (fun _ => ?_) (fun _ => ?_)
        · refine fr_pc (pc' := 106) rfl ?_
          refine fp_iload (i := 5) (x := e16.2.2) dd_SF_mostSaved_106 rfl (fr_pc (pc' := 108) rfl ?_)
          refine fp_goto (tgt := 112) dd_SF_mostSaved_108 rfl ?_
          exact fr_iret (v := e16.2.2) rfl rfl dd_SF_mostSaved_112
        · refine fp_iconst (v := (-1 : Int32)) dd_SF_mostSaved_111 (by decide) (fr_pc (pc' := 112) rfl ?_)
          exact fr_iret (v := (-1 : Int32)) rfl rfl dd_SF_mostSaved_112
theorem mt_SF_fillAnswers : sf_Mt ({ cls := "SplitFares", name := "fillAnswers", desc := "()V" } : Jvm.MethodName) prog_1_method_52_code 4 none 0 := ⟨sw_966, sw_1, ⟨by decide, by decide, by decide +kernel⟩, by decide⟩
theorem dd_SF_fillAnswers_0 : decode prog_1_method_52_code 0 = .ok (.aload_n 0, 1) := by decide +kernel
theorem dd_SF_fillAnswers_1 : decode prog_1_method_52_code 1 = .ok (.getfield 12, 3) := by decide +kernel
theorem dd_SF_fillAnswers_4 : decode prog_1_method_52_code 4 = .ok (.getfield 67, 3) := by decide +kernel
theorem dd_SF_fillAnswers_7 : decode prog_1_method_52_code 7 = .ok (.astore_n 1, 1) := by decide +kernel
theorem dd_SF_fillAnswers_8 : decode prog_1_method_52_code 8 = .ok (.iconst 0, 1) := by decide +kernel
theorem dd_SF_fillAnswers_9 : decode prog_1_method_52_code 9 = .ok (.istore_n 2, 1) := by decide +kernel
theorem dd_SF_fillAnswers_10 : decode prog_1_method_52_code 10 = .ok (.iload_n 2, 1) := by decide +kernel
theorem dd_SF_fillAnswers_11 : decode prog_1_method_52_code 11 = .ok (.bipush 6, 2) := by decide +kernel
theorem dd_SF_fillAnswers_13 : decode prog_1_method_52_code 13 = .ok (.if_icmp .ge 74, 3) := by decide +kernel
theorem dd_SF_fillAnswers_16 : decode prog_1_method_52_code 16 = .ok (.aload_n 1, 1) := by decide +kernel
theorem dd_SF_fillAnswers_17 : decode prog_1_method_52_code 17 = .ok (.iload_n 2, 1) := by decide +kernel
theorem dd_SF_fillAnswers_18 : decode prog_1_method_52_code 18 = .ok (.invokevirtual 79, 3) := by decide +kernel
theorem dd_SF_fillAnswers_21 : decode prog_1_method_52_code 21 = .ok (.ifCond .eq 66, 3) := by decide +kernel
theorem dd_SF_fillAnswers_24 : decode prog_1_method_52_code 24 = .ok (.aload_n 0, 1) := by decide +kernel
theorem dd_SF_fillAnswers_25 : decode prog_1_method_52_code 25 = .ok (.getfield 12, 3) := by decide +kernel
theorem dd_SF_fillAnswers_28 : decode prog_1_method_52_code 28 = .ok (.getfield 222, 3) := by decide +kernel
theorem dd_SF_fillAnswers_31 : decode prog_1_method_52_code 31 = .ok (.aload_n 1, 1) := by decide +kernel
theorem dd_SF_fillAnswers_32 : decode prog_1_method_52_code 32 = .ok (.iload_n 2, 1) := by decide +kernel
theorem dd_SF_fillAnswers_33 : decode prog_1_method_52_code 33 = .ok (.invokevirtual 231, 3) := by decide +kernel
theorem dd_SF_fillAnswers_36 : decode prog_1_method_52_code 36 = .ok (.iconst 0, 1) := by decide +kernel
theorem dd_SF_fillAnswers_37 : decode prog_1_method_52_code 37 = .ok (.istore_n 3, 1) := by decide +kernel
theorem dd_SF_fillAnswers_38 : decode prog_1_method_52_code 38 = .ok (.iload_n 3, 1) := by decide +kernel
theorem dd_SF_fillAnswers_39 : decode prog_1_method_52_code 39 = .ok (.bipush 8, 2) := by decide +kernel
theorem dd_SF_fillAnswers_41 : decode prog_1_method_52_code 41 = .ok (.if_icmp .ge 40, 3) := by decide +kernel
theorem dd_SF_fillAnswers_44 : decode prog_1_method_52_code 44 = .ok (.aload_n 0, 1) := by decide +kernel
theorem dd_SF_fillAnswers_45 : decode prog_1_method_52_code 45 = .ok (.getfield 40, 3) := by decide +kernel
theorem dd_SF_fillAnswers_48 : decode prog_1_method_52_code 48 = .ok (.iload_n 2, 1) := by decide +kernel
theorem dd_SF_fillAnswers_49 : decode prog_1_method_52_code 49 = .ok (.bipush 8, 2) := by decide +kernel
theorem dd_SF_fillAnswers_51 : decode prog_1_method_52_code 51 = .ok (.imul, 1) := by decide +kernel
theorem dd_SF_fillAnswers_52 : decode prog_1_method_52_code 52 = .ok (.iload_n 3, 1) := by decide +kernel
theorem dd_SF_fillAnswers_53 : decode prog_1_method_52_code 53 = .ok (.iadd, 1) := by decide +kernel
theorem dd_SF_fillAnswers_54 : decode prog_1_method_52_code 54 = .ok (.aload_n 0, 1) := by decide +kernel
theorem dd_SF_fillAnswers_55 : decode prog_1_method_52_code 55 = .ok (.getfield 12, 3) := by decide +kernel
theorem dd_SF_fillAnswers_58 : decode prog_1_method_52_code 58 = .ok (.getfield 222, 3) := by decide +kernel
theorem dd_SF_fillAnswers_61 : decode prog_1_method_52_code 61 = .ok (.aload_n 1, 1) := by decide +kernel
theorem dd_SF_fillAnswers_62 : decode prog_1_method_52_code 62 = .ok (.getfield 107, 3) := by decide +kernel
theorem dd_SF_fillAnswers_65 : decode prog_1_method_52_code 65 = .ok (.getfield 251, 3) := by decide +kernel
theorem dd_SF_fillAnswers_68 : decode prog_1_method_52_code 68 = .ok (.iload_n 3, 1) := by decide +kernel
theorem dd_SF_fillAnswers_69 : decode prog_1_method_52_code 69 = .ok (.bipush 7, 2) := by decide +kernel
theorem dd_SF_fillAnswers_71 : decode prog_1_method_52_code 71 = .ok (.invokevirtual 235, 3) := by decide +kernel
theorem dd_SF_fillAnswers_74 : decode prog_1_method_52_code 74 = .ok (.iastore, 1) := by decide +kernel
theorem dd_SF_fillAnswers_75 : decode prog_1_method_52_code 75 = .ok (.iinc 3 1, 3) := by decide +kernel
theorem dd_SF_fillAnswers_78 : decode prog_1_method_52_code 78 = .ok (.goto (-40), 3) := by decide +kernel
theorem dd_SF_fillAnswers_81 : decode prog_1_method_52_code 81 = .ok (.iinc 2 1, 3) := by decide +kernel
theorem dd_SF_fillAnswers_84 : decode prog_1_method_52_code 84 = .ok (.goto (-74), 3) := by decide +kernel
theorem dd_SF_fillAnswers_87 : decode prog_1_method_52_code 87 = .ok (.return_, 1) := by decide +kernel
def jx_SF_fillAnswers (p0 : Option Nat) : sf_M (Unit) :=
  sf_bnd (sf_gR 0 0 p0) fun x1 =>
  sf_bnd (sf_gR 1 0 x1) fun x2 =>
  sf_bnd (sf_loop (β := (Int32)) (γ := (Unit)) (fun b3 =>
  if (6 : Int32) ≤ b3 then (
  sf_ret (.inr ())
  ) else (
  sf_bnd (sf_rc 4 x2 (jx_Office_hasTrain x2 b3)) fun x5 =>
  if x5 = 0 then (
  sf_ret (.inr ())
  ) else (
  sf_bnd (sf_gR 0 0 p0) fun x7 =>
  sf_bnd (sf_gR 1 1 x7) fun x8 =>
  sf_bnd (sf_rc 10 x8 (jx_Ways_fillWithSingles x8 x2 b3)) fun _ =>
  sf_bnd (sf_loop (β := (Int32)) (γ := (Unit)) (fun b10 =>
  if (8 : Int32) ≤ b10 then (
  sf_ret (.inr ())
  ) else (
  sf_bnd (sf_gR 0 5 p0) fun x12 =>
  sf_bnd (sf_gR 0 0 p0) fun x13 =>
  sf_bnd (sf_gR 1 1 x13) fun x14 =>
  sf_bnd (sf_gR 4 0 x2) fun x15 =>
  sf_bnd (sf_gI 5 2 x15) fun x16 =>
  sf_bnd (sf_rc 10 x14 (jx_Ways_least x14 x16 b10 (7 : Int32))) fun x17 =>
  sf_bnd (sf_sI 0 x12 ((b3 * (8 : Int32)) + b10) x17) fun _ =>
  sf_bnd (sf_ret (b10 + (1 : Int32))) fun y18 =>
  sf_ret (.inl y18)
  )
  ) sf_fuel (0 : Int32)) (fun e19 =>
  sf_bnd (sf_ret (b3 + (1 : Int32))) fun y20 =>
  sf_ret (.inl y20)
  )
  )
  )
  ) sf_fuel (0 : Int32)) (fun e21 =>
  sf_ret ()
  )
set_option maxRecDepth 20000 in
set_option maxHeartbeats 4000000 in
theorem ok_SF_fillAnswers (p0 : Option Nat) : sf_Ok ({ cls := "SplitFares", name := "fillAnswers", desc := "()V" } : Jvm.MethodName) prog_1_method_52_code 4 none 5 [sf_rv p0] (jx_SF_fillAnswers p0) (fun _ => none) := by
  refine sf_Ok.of (env := [some (sf_rv p0), none, none, none]) (plainFor_of_name (by decide)) [false] (fun G => ⟨pk_r, trivial⟩) (Nat.le_of_ble_eq_true rfl) rfl (fun X => ?_)
  unfold jx_SF_fillAnswers
  refine fp_aload_n (i := 0) (r := p0) dd_SF_fillAnswers_0 rfl rfl (fr_pc (pc' := 1) rfl ?_)
  refine fr_gR cl_0 0 (by decide) rfl sw_315 dd_SF_fillAnswers_1 (fun x1 => fr_pc (pc' := 4) rfl ?_)
  refine fr_gR cl_1 0 (by decide) rfl sw_192 dd_SF_fillAnswers_4 (fun x2 => fr_pc (pc' := 7) rfl ?_)
  refine fp_astore_n (i := 1) dd_SF_fillAnswers_7 rfl (Nat.le_of_ble_eq_true rfl) (fun _ => c1_r rfl) (fr_to (pc' := 8) (env' := [some (sf_rv p0), some (sf_rv x2), none, none]) (stk' := []) rfl rfl rfl ?_)
  refine fp_iconst (v := (0 : Int32)) dd_SF_fillAnswers_8 (by decide) (fr_pc (pc' := 9) rfl ?_)
  refine fp_istore_n (i := 2) dd_SF_fillAnswers_9 rfl (Nat.le_of_ble_eq_true rfl) (fun _ => c1_r rfl) (fr_to (pc' := 10) (env' := [some (sf_rv p0), some (sf_rv x2), some (.int (0 : Int32)), none]) (stk' := []) rfl rfl rfl ?_)
  refine fr_to (pc' := 10) (env' := [some (sf_rv p0), some (sf_rv x2), some (.int (0 : Int32)), none]) (stk' := []) rfl rfl rfl ?_
  refine fr_bnd (l1 := (fun (e21 : (Unit)) => sf_p 87 [some (sf_rv p0), some (sf_rv x2), none, none] [])) (fr_loop (Lb := (fun (b3 : (Int32)) => sf_p 10 [some (sf_rv p0), some (sf_rv x2), some (.int b3), none] [])) (fun b3 => ?_) _ _) (fun e21 => ?_)
  · refine fp_iload_n (i := 2) (x := b3) dd_SF_fillAnswers_10 rfl rfl (fr_pc (pc' := 11) rfl ?_)
    refine fp_bipush (v := (6 : Int32)) dd_SF_fillAnswers_11 (by decide) (fr_pc (pc' := 13) rfl ?_)
    refine fr_icmp_ge (tgt := 87) dd_SF_fillAnswers_13 rfl (fun _ => ?_) (fun _ => ?_)
    · refine fr_wk [true, true, false, false] ?_
      exact fr_ret rfl
    · refine fr_pc (pc' := 16) rfl ?_
      refine fp_aload_n (i := 1) (r := x2) dd_SF_fillAnswers_16 rfl rfl (fr_pc (pc' := 17) rfl ?_)
      refine fp_iload_n (i := 2) (x := b3) dd_SF_fillAnswers_17 rfl rfl (fr_pc (pc' := 18) rfl ?_)
      refine fr_callV (stk := []) (As := [.int b3]) cl_4 (ok_Office_hasTrain x2 b3) mt_Office_hasTrain rfl rfl sw_386 sw_387 sw_388 (by decide) (Nat.le_of_ble_eq_true rfl) dd_SF_fillAnswers_18 (fun x5 => fr_to (pc' := 21) (env' := [some (sf_rv p0), some (sf_rv x2), some (.int b3), none]) (stk' := [.int x5]) rfl rfl rfl ?_)
      refine fr_if_eq (tgt := 87) dd_SF_fillAnswers_21 rfl (fun _ => ?_) (fun _ => ?_)
      · refine fr_wk [true, true, false, false] ?_
        exact fr_ret rfl
      · refine fr_pc (pc' := 24) rfl ?_
        refine fp_aload_n (i := 0) (r := p0) dd_SF_fillAnswers_24 rfl rfl (fr_pc (pc' := 25) rfl ?_)
        refine fr_gR cl_0 0 (by decide) rfl sw_315 dd_SF_fillAnswers_25 (fun x7 => fr_pc (pc' := 28) rfl ?_)
        refine fr_gR cl_1 1 (by decide) rfl sw_194 dd_SF_fillAnswers_28 (fun x8 => fr_pc (pc' := 31) rfl ?_)
        refine fp_aload_n (i := 1) (r := x2) dd_SF_fillAnswers_31 rfl rfl (fr_pc (pc' := 32) rfl ?_)
        refine fp_iload_n (i := 2) (x := b3) dd_SF_fillAnswers_32 rfl rfl (fr_pc (pc' := 33) rfl ?_)
        refine fr_callV (stk := []) (As := [sf_rv x2, .int b3]) cl_10 (ok_Ways_fillWithSingles x8 x2 b3) mt_Ways_fillWithSingles rfl rfl sw_902 sw_903 sw_904 (by decide) (Nat.le_of_ble_eq_true rfl) dd_SF_fillAnswers_33 (fun u9 => fr_to (pc' := 36) (env' := [some (sf_rv p0), some (sf_rv x2), some (.int b3), none]) (stk' := []) rfl rfl rfl ?_)
        refine fp_iconst (v := (0 : Int32)) dd_SF_fillAnswers_36 (by decide) (fr_pc (pc' := 37) rfl ?_)
        refine fp_istore_n (i := 3) dd_SF_fillAnswers_37 rfl (Nat.le_of_ble_eq_true rfl) (fun _ => c1_i rfl) (fr_to (pc' := 38) (env' := [some (sf_rv p0), some (sf_rv x2), some (.int b3), some (.int (0 : Int32))]) (stk' := []) rfl rfl rfl ?_)
        refine fr_to (pc' := 38) (env' := [some (sf_rv p0), some (sf_rv x2), some (.int b3), some (.int (0 : Int32))]) (stk' := []) rfl rfl rfl ?_
        refine fr_bnd (l1 := (fun (e19 : (Unit)) => sf_p 81 [some (sf_rv p0), some (sf_rv x2), some (.int b3), none] [])) (fr_loop (Lb := (fun (b10 : (Int32)) => sf_p 38 [some (sf_rv p0), some (sf_rv x2), some (.int b3), some (.int b10)] [])) (fun b10 => ?_) _ _) (fun e19 => ?_)
        · refine fp_iload_n (i := 3) (x := b10) dd_SF_fillAnswers_38 rfl rfl (fr_pc (pc' := 39) rfl ?_)
          refine fp_bipush (v := (8 : Int32)) dd_SF_fillAnswers_39 (by decide) (fr_pc (pc' := 41) rfl ?_)
          refine fr_icmp_ge (tgt := 81) dd_SF_fillAnswers_41 rfl (fun _ => ?_) (fun _ => ?_)
          · refine fr_wk [true, true, true, false] ?_
            exact fr_ret rfl
          · refine fr_pc (pc' := 44) rfl ?_
            refine fp_aload_n (i := 0) (r := p0) dd_SF_fillAnswers_44 rfl rfl (fr_pc (pc' := 45) rfl ?_)
            refine fr_gR cl_0 5 (by decide) rfl sw_320 dd_SF_fillAnswers_45 (fun x12 => fr_pc (pc' := 48) rfl ?_)
            refine fp_iload_n (i := 2) (x := b3) dd_SF_fillAnswers_48 rfl rfl (fr_pc (pc' := 49) rfl ?_)
            refine fp_bipush (v := (8 : Int32)) dd_SF_fillAnswers_49 (by decide) (fr_pc (pc' := 51) rfl ?_)
            refine fp_imul dd_SF_fillAnswers_51 (fr_pc (pc' := 52) rfl ?_)
            refine fp_iload_n (i := 3) (x := b10) dd_SF_fillAnswers_52 rfl rfl (fr_pc (pc' := 53) rfl ?_)
            refine fp_iadd dd_SF_fillAnswers_53 (fr_pc (pc' := 54) rfl ?_)
            refine fp_aload_n (i := 0) (r := p0) dd_SF_fillAnswers_54 rfl rfl (fr_pc (pc' := 55) rfl ?_)
            refine fr_gR cl_0 0 (by decide) rfl sw_315 dd_SF_fillAnswers_55 (fun x13 => fr_pc (pc' := 58) rfl ?_)
            refine fr_gR cl_1 1 (by decide) rfl sw_194 dd_SF_fillAnswers_58 (fun x14 => fr_pc (pc' := 61) rfl ?_)
            refine fp_aload_n (i := 1) (r := x2) dd_SF_fillAnswers_61 rfl rfl (fr_pc (pc' := 62) rfl ?_)
            refine fr_gR cl_4 0 (by decide) rfl sw_88 dd_SF_fillAnswers_62 (fun x15 => fr_pc (pc' := 65) rfl ?_)
            refine fr_gI cl_5 2 (by decide) rfl sw_53 dd_SF_fillAnswers_65 (fun x16 => fr_pc (pc' := 68) rfl ?_)
            refine fp_iload_n (i := 3) (x := b10) dd_SF_fillAnswers_68 rfl rfl (fr_pc (pc' := 69) rfl ?_)
            refine fp_bipush (v := (7 : Int32)) dd_SF_fillAnswers_69 (by decide) (fr_pc (pc' := 71) rfl ?_)
            refine fr_callV (stk := [.int ((b3 * (8 : Int32)) + b10), sf_rv x12]) (As := [.int x16, .int b10, .int (7 : Int32)]) cl_10 (ok_Ways_least x14 x16 b10 (7 : Int32)) mt_Ways_least rfl rfl sw_907 sw_810 sw_811 (by decide) (Nat.le_of_ble_eq_true rfl) dd_SF_fillAnswers_71 (fun x17 => fr_to (pc' := 74) (env' := [some (sf_rv p0), some (sf_rv x2), some (.int b3), some (.int b10)]) (stk' := [.int x17, .int ((b3 * (8 : Int32)) + b10), sf_rv x12]) rfl rfl rfl ?_)
            refine fr_sI0 dd_SF_fillAnswers_74 (fr_pc (pc' := 75) rfl ?_)
            refine fr_niinc (i := 3) (x := b10) (w := (1 : Int32)) dd_SF_fillAnswers_75 rfl (by decide) (Nat.le_of_ble_eq_true rfl) (fun _ => c1_i rfl) (fun y18 => fr_to (pc' := 78) (env' := [some (sf_rv p0), some (sf_rv x2), some (.int b3), some (.int y18)]) (stk' := []) rfl rfl rfl ?_)
            refine fp_goto (tgt := 38) dd_SF_fillAnswers_78 rfl ?_
            exact fr_ret rfl
        · refine fr_niinc (i := 2) (x := b3) (w := (1 : Int32)) dd_SF_fillAnswers_81 rfl (by decide) (Nat.le_of_ble_eq_true rfl) (fun _ => c1_r rfl) (fun y20 => fr_to (pc' := 84) (env' := [some (sf_rv p0), some (sf_rv x2), some (.int y20), none]) (stk' := []) rfl rfl rfl ?_)
          refine fp_goto (tgt := 10) dd_SF_fillAnswers_84 rfl ?_
          exact fr_ret rfl
  · exact fr_vret rfl rfl dd_SF_fillAnswers_87
theorem mt_SF_purseEnd : sf_Mt ({ cls := "SplitFares", name := "purseEnd", desc := "()I" } : Jvm.MethodName) prog_1_method_30_code 4 (some .int) 0 := ⟨sw_962, sw_1, ⟨by decide, by decide, by decide +kernel⟩, by decide⟩
theorem dd_SF_purseEnd_0 : decode prog_1_method_30_code 0 = .ok (.aload_n 0, 1) := by decide +kernel
theorem dd_SF_purseEnd_1 : decode prog_1_method_30_code 1 = .ok (.getfield 12, 3) := by decide +kernel
theorem dd_SF_purseEnd_4 : decode prog_1_method_30_code 4 = .ok (.getfield 67, 3) := by decide +kernel
theorem dd_SF_purseEnd_7 : decode prog_1_method_30_code 7 = .ok (.getfield 107, 3) := by decide +kernel
theorem dd_SF_purseEnd_10 : decode prog_1_method_30_code 10 = .ok (.astore_n 1, 1) := by decide +kernel
theorem dd_SF_purseEnd_11 : decode prog_1_method_30_code 11 = .ok (.aload_n 0, 1) := by decide +kernel
theorem dd_SF_purseEnd_12 : decode prog_1_method_30_code 12 = .ok (.invokevirtual 248, 3) := by decide +kernel
theorem dd_SF_purseEnd_15 : decode prog_1_method_30_code 15 = .ok (.iconst 1, 1) := by decide +kernel
theorem dd_SF_purseEnd_16 : decode prog_1_method_30_code 16 = .ok (.aload_n 1, 1) := by decide +kernel
theorem dd_SF_purseEnd_17 : decode prog_1_method_30_code 17 = .ok (.getfield 251, 3) := by decide +kernel
theorem dd_SF_purseEnd_20 : decode prog_1_method_30_code 20 = .ok (.ishl, 1) := by decide +kernel
theorem dd_SF_purseEnd_21 : decode prog_1_method_30_code 21 = .ok (.istore_n 2, 1) := by decide +kernel
theorem dd_SF_purseEnd_22 : decode prog_1_method_30_code 22 = .ok (.iconst 0, 1) := by decide +kernel
theorem dd_SF_purseEnd_23 : decode prog_1_method_30_code 23 = .ok (.istore_n 3, 1) := by decide +kernel
theorem dd_SF_purseEnd_24 : decode prog_1_method_30_code 24 = .ok (.iload_n 3, 1) := by decide +kernel
theorem dd_SF_purseEnd_25 : decode prog_1_method_30_code 25 = .ok (.aload_n 0, 1) := by decide +kernel
theorem dd_SF_purseEnd_26 : decode prog_1_method_30_code 26 = .ok (.getfield 40, 3) := by decide +kernel
theorem dd_SF_purseEnd_29 : decode prog_1_method_30_code 29 = .ok (.arraylength, 1) := by decide +kernel
theorem dd_SF_purseEnd_30 : decode prog_1_method_30_code 30 = .ok (.if_icmp .ge 57, 3) := by decide +kernel
theorem dd_SF_purseEnd_33 : decode prog_1_method_30_code 33 = .ok (.aload_n 0, 1) := by decide +kernel
theorem dd_SF_purseEnd_34 : decode prog_1_method_30_code 34 = .ok (.getfield 12, 3) := by decide +kernel
theorem dd_SF_purseEnd_37 : decode prog_1_method_30_code 37 = .ok (.getfield 67, 3) := by decide +kernel
theorem dd_SF_purseEnd_40 : decode prog_1_method_30_code 40 = .ok (.iload_n 3, 1) := by decide +kernel
theorem dd_SF_purseEnd_41 : decode prog_1_method_30_code 41 = .ok (.bipush 8, 2) := by decide +kernel
theorem dd_SF_purseEnd_43 : decode prog_1_method_30_code 43 = .ok (.idiv, 1) := by decide +kernel
theorem dd_SF_purseEnd_44 : decode prog_1_method_30_code 44 = .ok (.invokevirtual 79, 3) := by decide +kernel
theorem dd_SF_purseEnd_47 : decode prog_1_method_30_code 47 = .ok (.ifCond .eq 40, 3) := by decide +kernel
theorem dd_SF_purseEnd_50 : decode prog_1_method_30_code 50 = .ok (.aload_n 0, 1) := by decide +kernel
theorem dd_SF_purseEnd_51 : decode prog_1_method_30_code 51 = .ok (.getfield 40, 3) := by decide +kernel
theorem dd_SF_purseEnd_54 : decode prog_1_method_30_code 54 = .ok (.iload_n 3, 1) := by decide +kernel
theorem dd_SF_purseEnd_55 : decode prog_1_method_30_code 55 = .ok (.iaload, 1) := by decide +kernel
theorem dd_SF_purseEnd_56 : decode prog_1_method_30_code 56 = .ok (.ifCond .lt 25, 3) := by decide +kernel
theorem dd_SF_purseEnd_59 : decode prog_1_method_30_code 59 = .ok (.aload_n 0, 1) := by decide +kernel
theorem dd_SF_purseEnd_60 : decode prog_1_method_30_code 60 = .ok (.getfield 40, 3) := by decide +kernel
theorem dd_SF_purseEnd_63 : decode prog_1_method_30_code 63 = .ok (.iload_n 3, 1) := by decide +kernel
theorem dd_SF_purseEnd_64 : decode prog_1_method_30_code 64 = .ok (.iaload, 1) := by decide +kernel
theorem dd_SF_purseEnd_65 : decode prog_1_method_30_code 65 = .ok (.aload_n 1, 1) := by decide +kernel
theorem dd_SF_purseEnd_66 : decode prog_1_method_30_code 66 = .ok (.getfield 253, 3) := by decide +kernel
theorem dd_SF_purseEnd_69 : decode prog_1_method_30_code 69 = .ok (.if_icmp .gt 12, 3) := by decide +kernel
theorem dd_SF_purseEnd_72 : decode prog_1_method_30_code 72 = .ok (.iload_n 2, 1) := by decide +kernel
theorem dd_SF_purseEnd_73 : decode prog_1_method_30_code 73 = .ok (.iconst 1, 1) := by decide +kernel
theorem dd_SF_purseEnd_74 : decode prog_1_method_30_code 74 = .ok (.iload_n 3, 1) := by decide +kernel
theorem dd_SF_purseEnd_75 : decode prog_1_method_30_code 75 = .ok (.bipush 8, 2) := by decide +kernel
theorem dd_SF_purseEnd_77 : decode prog_1_method_30_code 77 = .ok (.irem, 1) := by decide +kernel
theorem dd_SF_purseEnd_78 : decode prog_1_method_30_code 78 = .ok (.ishl, 1) := by decide +kernel
theorem dd_SF_purseEnd_79 : decode prog_1_method_30_code 79 = .ok (.ior, 1) := by decide +kernel
theorem dd_SF_purseEnd_80 : decode prog_1_method_30_code 80 = .ok (.istore_n 2, 1) := by decide +kernel
theorem dd_SF_purseEnd_81 : decode prog_1_method_30_code 81 = .ok (.iinc 3 1, 3) := by decide +kernel
theorem dd_SF_purseEnd_84 : decode prog_1_method_30_code 84 = .ok (.goto (-60), 3) := by decide +kernel
theorem dd_SF_purseEnd_87 : decode prog_1_method_30_code 87 = .ok (.iload_n 2, 1) := by decide +kernel
theorem dd_SF_purseEnd_88 : decode prog_1_method_30_code 88 = .ok (.ireturn, 1) := by decide +kernel
def jx_SF_purseEnd (p0 : Option Nat) : sf_M (Int32) :=
  sf_bnd (sf_gR 0 0 p0) fun x1 =>
  sf_bnd (sf_gR 1 0 x1) fun x2 =>
  sf_bnd (sf_gR 4 0 x2) fun x3 =>
  sf_bnd (sf_rc 0 p0 (jx_SF_fillAnswers p0)) fun _ =>
  sf_bnd (sf_gI 5 2 x3) fun x5 =>
  sf_bnd (sf_ret (((1 : Int32) <<< (x5 &&& 31)))) fun y6 =>
  sf_bnd (sf_loop (β := (Int32 × Int32)) (γ := (Int32)) (fun b7 =>
  sf_bnd (sf_gR 0 5 p0) fun x8 =>
  sf_bnd (sf_len x8) fun x9 =>
  if x9 ≤ b7.2 then (
  sf_ret (.inr b7.1)
  ) else (
  sf_bnd (sf_gR 0 0 p0) fun x11 =>
  sf_bnd (sf_gR 1 0 x11) fun x12 =>
  sf_bnd (sf_rc 4 x12 (jx_Office_hasTrain x12 (b7.2 / (8 : Int32)))) fun x13 =>
  if x13 = 0 then (
  sf_ret (.inr b7.1)
  ) else (
  sf_bnd (sf_gR 0 5 p0) fun x15 =>
  sf_bnd (sf_aI 0 x15 b7.2) fun x16 =>
  if x16 < 0 then (
  sf_bnd (sf_ret (b7.2 + (1 : Int32))) fun y18 =>
  sf_ret (.inl (b7.1, y18))
  ) else (
  sf_bnd (sf_gR 0 5 p0) fun x19 =>
  sf_bnd (sf_aI 0 x19 b7.2) fun x20 =>
  sf_bnd (sf_gI 5 1 x3) fun x21 =>
  if x21 < x20 then (
  sf_bnd (sf_ret (b7.2 + (1 : Int32))) fun y23 =>
  sf_ret (.inl (b7.1, y23))
  ) else (
  sf_bnd (sf_ret ((b7.1 ||| ((1 : Int32) <<< ((b7.2 - b7.2 / (8 : Int32) * (8 : Int32)) &&& 31))))) fun y24 =>
  sf_bnd (sf_ret (b7.2 + (1 : Int32))) fun y25 =>
  sf_ret (.inl (y24, y25))
  )
  )
  )
  )
  ) sf_fuel (y6, (0 : Int32))) (fun e26 =>
  sf_ret e26
  )
set_option maxRecDepth 20000 in
set_option maxHeartbeats 4000000 in
theorem ok_SF_purseEnd (p0 : Option Nat) : sf_Ok ({ cls := "SplitFares", name := "purseEnd", desc := "()I" } : Jvm.MethodName) prog_1_method_30_code 4 (some .int) 6 [sf_rv p0] (jx_SF_purseEnd p0) (fun r => some (.int r)) := by
  refine sf_Ok.of (env := [some (sf_rv p0), none, none, none]) (plainFor_of_name (by decide)) [false] (fun G => ⟨pk_r, trivial⟩) (Nat.le_of_ble_eq_true rfl) rfl (fun X => ?_)
  unfold jx_SF_purseEnd
  refine fp_aload_n (i := 0) (r := p0) dd_SF_purseEnd_0 rfl rfl (fr_pc (pc' := 1) rfl ?_)
  refine fr_gR cl_0 0 (by decide) rfl sw_315 dd_SF_purseEnd_1 (fun x1 => fr_pc (pc' := 4) rfl ?_)
  refine fr_gR cl_1 0 (by decide) rfl sw_192 dd_SF_purseEnd_4 (fun x2 => fr_pc (pc' := 7) rfl ?_)
  refine fr_gR cl_4 0 (by decide) rfl sw_88 dd_SF_purseEnd_7 (fun x3 => fr_pc (pc' := 10) rfl ?_)
  refine fp_astore_n (i := 1) dd_SF_purseEnd_10 rfl (Nat.le_of_ble_eq_true rfl) (fun _ => c1_r rfl) (fr_to (pc' := 11) (env' := [some (sf_rv p0), some (sf_rv x3), none, none]) (stk' := []) rfl rfl rfl ?_)
  refine fp_aload_n (i := 0) (r := p0) dd_SF_purseEnd_11 rfl rfl (fr_pc (pc' := 12) rfl ?_)
  refine fr_callV (stk := []) (As := []) cl_0 (ok_SF_fillAnswers p0) mt_SF_fillAnswers rfl rfl sw_963 sw_965 sp_23 (by decide) (Nat.le_of_ble_eq_true rfl) dd_SF_purseEnd_12 (fun u4 => fr_to (pc' := 15) (env' := [some (sf_rv p0), some (sf_rv x3), none, none]) (stk' := []) rfl rfl rfl ?_)
  refine fp_iconst (v := (1 : Int32)) dd_SF_purseEnd_15 (by decide) (fr_pc (pc' := 16) rfl ?_)
  refine fp_aload_n (i := 1) (r := x3) dd_SF_purseEnd_16 rfl rfl (fr_pc (pc' := 17) rfl ?_)
  refine fr_gI cl_5 2 (by decide) rfl sw_53 dd_SF_purseEnd_17 (fun x5 => fr_pc (pc' := 20) rfl ?_)
  refine fp_ishl dd_SF_purseEnd_20 (fr_pc (pc' := 21) rfl ?_)
  refine fr_nistore_n (i := 2) dd_SF_purseEnd_21 rfl (Nat.le_of_ble_eq_true rfl) (fun _ => c1_r rfl) (fun y6 => fr_to (pc' := 22) (env' := [some (sf_rv p0), some (sf_rv x3), some (.int y6), none]) (stk' := []) rfl rfl rfl ?_)
  refine fp_iconst (v := (0 : Int32)) dd_SF_purseEnd_22 (by decide) (fr_pc (pc' := 23) rfl ?_)
  refine fp_istore_n (i := 3) dd_SF_purseEnd_23 rfl (Nat.le_of_ble_eq_true rfl) (fun _ => c1_i rfl) (fr_to (pc' := 24) (env' := [some (sf_rv p0), some (sf_rv x3), some (.int y6), some (.int (0 : Int32))]) (stk' := []) rfl rfl rfl ?_)
  refine fr_to (pc' := 24) (env' := [some (sf_rv p0), some (sf_rv x3), some (.int y6), some (.int (0 : Int32))]) (stk' := []) rfl rfl rfl ?_
  refine fr_bnd (l1 := (fun (e26 : (Int32)) => sf_p 87 [some (sf_rv p0), some (sf_rv x3), some (.int e26), none] [])) (fr_loop (Lb := (fun (b7 : (Int32 × Int32)) => sf_p 24 [some (sf_rv p0), some (sf_rv x3), some (.int b7.1), some (.int b7.2)] [])) (fun b7 => ?_) _ _) (fun e26 => ?_)
  · refine fp_iload_n (i := 3) (x := b7.2) dd_SF_purseEnd_24 rfl rfl (fr_pc (pc' := 25) rfl ?_)
    refine fp_aload_n (i := 0) (r := p0) dd_SF_purseEnd_25 rfl rfl (fr_pc (pc' := 26) rfl ?_)
    refine fr_gR cl_0 5 (by decide) rfl sw_320 dd_SF_purseEnd_26 (fun x8 => fr_pc (pc' := 29) rfl ?_)
    refine fr_len dd_SF_purseEnd_29 (fun x9 => fr_pc (pc' := 30) rfl ?_)
    refine fr_icmp_ge (tgt := 87) dd_SF_purseEnd_30 rfl (fun _ => ?_) (fun _ => ?_)
    · refine fr_wk [true, true, true, false] ?_
      exact fr_ret rfl
    · refine fr_pc (pc' := 33) rfl ?_
      refine fp_aload_n (i := 0) (r := p0) dd_SF_purseEnd_33 rfl rfl (fr_pc (pc' := 34) rfl ?_)
      refine fr_gR cl_0 0 (by decide) rfl sw_315 dd_SF_purseEnd_34 (fun x11 => fr_pc (pc' := 37) rfl ?_)
      refine fr_gR cl_1 0 (by decide) rfl sw_192 dd_SF_purseEnd_37 (fun x12 => fr_pc (pc' := 40) rfl ?_)
      refine fp_iload_n (i := 3) (x := b7.2) dd_SF_purseEnd_40 rfl rfl (fr_pc (pc' := 41) rfl ?_)
      refine fp_bipush (v := (8 : Int32)) dd_SF_purseEnd_41 (by decide) (fr_pc (pc' := 43) rfl ?_)
      refine fp_idiv0 dd_SF_purseEnd_43 (by decide) (fr_pc (pc' := 44) rfl ?_)
      refine fr_callV (stk := []) (As := [.int (b7.2 / (8 : Int32))]) cl_4 (ok_Office_hasTrain x12 (b7.2 / (8 : Int32))) mt_Office_hasTrain rfl rfl sw_386 sw_387 sw_388 (by decide) (Nat.le_of_ble_eq_true rfl) dd_SF_purseEnd_44 (fun x13 => fr_to (pc' := 47) (env' := [some (sf_rv p0), some (sf_rv x3), some (.int b7.1), some (.int b7.2)]) (stk' := [.int x13]) rfl rfl rfl ?_)
      refine fr_if_eq (tgt := 87) dd_SF_purseEnd_47 rfl (fun _ => ?_) (fun _ => ?_)
      · refine fr_wk [true, true, true, false] ?_
        exact fr_ret rfl
      · refine fr_pc (pc' := 50) rfl ?_
        refine fp_aload_n (i := 0) (r := p0) dd_SF_purseEnd_50 rfl rfl (fr_pc (pc' := 51) rfl ?_)
        refine fr_gR cl_0 5 (by decide) rfl sw_320 dd_SF_purseEnd_51 (fun x15 => fr_pc (pc' := 54) rfl ?_)
        refine fp_iload_n (i := 3) (x := b7.2) dd_SF_purseEnd_54 rfl rfl (fr_pc (pc' := 55) rfl ?_)
        refine fr_aI0 dd_SF_purseEnd_55 (fun x16 => fr_pc (pc' := 56) rfl ?_)
        refine fr_if_lt (tgt := 81) dd_SF_purseEnd_56 rfl (fun _ => ?_) (fun _ => ?_)
        · refine fr_niinc (i := 3) (x := b7.2) (w := (1 : Int32)) dd_SF_purseEnd_81 rfl (by decide) (Nat.le_of_ble_eq_true rfl) (fun _ => c1_i rfl) (fun y18 => fr_to (pc' := 84) (env' := [some (sf_rv p0), some (sf_rv x3), some (.int b7.1), some (.int y18)]) (stk' := []) rfl rfl rfl ?_)
          refine fp_goto (tgt := 24) dd_SF_purseEnd_84 rfl ?_
          exact fr_ret rfl
        · refine fr_pc (pc' := 59) rfl ?_
          refine fp_aload_n (i := 0) (r := p0) dd_SF_purseEnd_59 rfl rfl (fr_pc (pc' := 60) rfl ?_)
          refine fr_gR cl_0 5 (by decide) rfl sw_320 dd_SF_purseEnd_60 (fun x19 => fr_pc (pc' := 63) rfl ?_)
          refine fp_iload_n (i := 3) (x := b7.2) dd_SF_purseEnd_63 rfl rfl (fr_pc (pc' := 64) rfl ?_)
          refine fr_aI0 dd_SF_purseEnd_64 (fun x20 => fr_pc (pc' := 65) rfl ?_)
          refine fp_aload_n (i := 1) (r := x3) dd_SF_purseEnd_65 rfl rfl (fr_pc (pc' := 66) rfl ?_)
          refine fr_gI cl_5 1 (by decide) rfl sw_50 dd_SF_purseEnd_66 (fun x21 => fr_pc (pc' := 69) rfl ?_)
          refine fr_icmp_gt (tgt := 81) dd_SF_purseEnd_69 rfl (fun _ => ?_) (fun _ => ?_)
          · refine fr_niinc (i := 3) (x := b7.2) (w := (1 : Int32)) dd_SF_purseEnd_81 rfl (by decide) (Nat.le_of_ble_eq_true rfl) (fun _ => c1_i rfl) (fun y23 => fr_to (pc' := 84) (env' := [some (sf_rv p0), some (sf_rv x3), some (.int b7.1), some (.int y23)]) (stk' := []) rfl rfl rfl ?_)
            refine fp_goto (tgt := 24) dd_SF_purseEnd_84 rfl ?_
            exact fr_ret rfl
          · refine fr_pc (pc' := 72) rfl ?_
            refine fp_iload_n (i := 2) (x := b7.1) dd_SF_purseEnd_72 rfl rfl (fr_pc (pc' := 73) rfl ?_)
            refine fp_iconst (v := (1 : Int32)) dd_SF_purseEnd_73 (by decide) (fr_pc (pc' := 74) rfl ?_)
            refine fp_iload_n (i := 3) (x := b7.2) dd_SF_purseEnd_74 rfl rfl (fr_pc (pc' := 75) rfl ?_)
            refine fp_bipush (v := (8 : Int32)) dd_SF_purseEnd_75 (by decide) (fr_pc (pc' := 77) rfl ?_)
            refine fp_irem0 dd_SF_purseEnd_77 (by decide) (fr_pc (pc' := 78) rfl ?_)
            refine fp_ishl dd_SF_purseEnd_78 (fr_pc (pc' := 79) rfl ?_)
            refine fp_ior dd_SF_purseEnd_79 (fr_pc (pc' := 80) rfl ?_)
            refine fr_nistore_n (i := 2) dd_SF_purseEnd_80 rfl (Nat.le_of_ble_eq_true rfl) (fun _ => c1_r rfl) (fun y24 => fr_to (pc' := 81) (env' := [some (sf_rv p0), some (sf_rv x3), some (.int y24), some (.int b7.2)]) (stk' := []) rfl rfl rfl ?_)
            refine fr_niinc (i := 3) (x := b7.2) (w := (1 : Int32)) dd_SF_purseEnd_81 rfl (by decide) (Nat.le_of_ble_eq_true rfl) (fun _ => c1_i rfl) (fun y25 => fr_to (pc' := 84) (env' := [some (sf_rv p0), some (sf_rv x3), some (.int y24), some (.int y25)]) (stk' := []) rfl rfl rfl ?_)
            refine fp_goto (tgt := 24) dd_SF_purseEnd_84 rfl ?_
            exact fr_ret rfl
  · refine fp_iload_n (i := 2) (x := e26) dd_SF_purseEnd_87 rfl rfl (fr_pc (pc' := 88) rfl ?_)
    exact fr_iret (v := e26) rfl rfl dd_SF_purseEnd_88
theorem mt_SF_used : sf_Mt ({ cls := "SplitFares", name := "used", desc := "(III)I" } : Jvm.MethodName) prog_1_method_31_code 6 (some .int) 3 := ⟨sw_970, sw_1, ⟨by decide, by decide, by decide +kernel⟩, by decide⟩
theorem dd_SF_used_0 : decode prog_1_method_31_code 0 = .ok (.aload_n 0, 1) := by decide +kernel
theorem dd_SF_used_1 : decode prog_1_method_31_code 1 = .ok (.getfield 12, 3) := by decide +kernel
theorem dd_SF_used_4 : decode prog_1_method_31_code 4 = .ok (.getfield 67, 3) := by decide +kernel
theorem dd_SF_used_7 : decode prog_1_method_31_code 7 = .ok (.getfield 107, 3) := by decide +kernel
theorem dd_SF_used_10 : decode prog_1_method_31_code 10 = .ok (.getfield 251, 3) := by decide +kernel
theorem dd_SF_used_13 : decode prog_1_method_31_code 13 = .ok (.istore 4, 2) := by decide +kernel
theorem dd_SF_used_15 : decode prog_1_method_31_code 15 = .ok (.aload_n 0, 1) := by decide +kernel
theorem dd_SF_used_16 : decode prog_1_method_31_code 16 = .ok (.getfield 12, 3) := by decide +kernel
theorem dd_SF_used_19 : decode prog_1_method_31_code 19 = .ok (.getfield 222, 3) := by decide +kernel
theorem dd_SF_used_22 : decode prog_1_method_31_code 22 = .ok (.aload_n 0, 1) := by decide +kernel
theorem dd_SF_used_23 : decode prog_1_method_31_code 23 = .ok (.getfield 12, 3) := by decide +kernel
theorem dd_SF_used_26 : decode prog_1_method_31_code 26 = .ok (.getfield 67, 3) := by decide +kernel
theorem dd_SF_used_29 : decode prog_1_method_31_code 29 = .ok (.iload_n 1, 1) := by decide +kernel
theorem dd_SF_used_30 : decode prog_1_method_31_code 30 = .ok (.invokevirtual 256, 3) := by decide +kernel
theorem dd_SF_used_33 : decode prog_1_method_31_code 33 = .ok (.aload_n 0, 1) := by decide +kernel
theorem dd_SF_used_34 : decode prog_1_method_31_code 34 = .ok (.getfield 12, 3) := by decide +kernel
theorem dd_SF_used_37 : decode prog_1_method_31_code 37 = .ok (.getfield 222, 3) := by decide +kernel
theorem dd_SF_used_40 : decode prog_1_method_31_code 40 = .ok (.iload 4, 2) := by decide +kernel
theorem dd_SF_used_42 : decode prog_1_method_31_code 42 = .ok (.iload_n 2, 1) := by decide +kernel
theorem dd_SF_used_43 : decode prog_1_method_31_code 43 = .ok (.bipush 7, 2) := by decide +kernel
theorem dd_SF_used_45 : decode prog_1_method_31_code 45 = .ok (.invokevirtual 235, 3) := by decide +kernel
theorem dd_SF_used_48 : decode prog_1_method_31_code 48 = .ok (.istore 5, 2) := by decide +kernel
theorem dd_SF_used_50 : decode prog_1_method_31_code 50 = .ok (.iload 5, 2) := by decide +kernel
theorem dd_SF_used_52 : decode prog_1_method_31_code 52 = .ok (.ifCond .lt 8, 3) := by decide +kernel
theorem dd_SF_used_55 : decode prog_1_method_31_code 55 = .ok (.iload_n 3, 1) := by decide +kernel
theorem dd_SF_used_56 : decode prog_1_method_31_code 56 = .ok (.iconst (-1), 1) := by decide +kernel
theorem dd_SF_used_57 : decode prog_1_method_31_code 57 = .ok (.if_icmp .ne 6, 3) := by decide +kernel
theorem dd_SF_used_63 : decode prog_1_method_31_code 63 = .ok (.aload_n 0, 1) := by decide +kernel
theorem dd_SF_used_64 : decode prog_1_method_31_code 64 = .ok (.getfield 12, 3) := by decide +kernel
theorem dd_SF_used_67 : decode prog_1_method_31_code 67 = .ok (.getfield 222, 3) := by decide +kernel
theorem dd_SF_used_70 : decode prog_1_method_31_code 70 = .ok (.iload 4, 2) := by decide +kernel
theorem dd_SF_used_72 : decode prog_1_method_31_code 72 = .ok (.iload_n 2, 1) := by decide +kernel
theorem dd_SF_used_73 : decode prog_1_method_31_code 73 = .ok (.iload_n 3, 1) := by decide +kernel
theorem dd_SF_used_74 : decode prog_1_method_31_code 74 = .ok (.invokevirtual 226, 3) := by decide +kernel
theorem dd_SF_used_77 : decode prog_1_method_31_code 77 = .ok (.ireturn, 1) := by decide +kernel
theorem dd_SF_used_60 : decode prog_1_method_31_code 60 = .ok (.iload 5, 2) := by decide +kernel
theorem dd_SF_used_62 : decode prog_1_method_31_code 62 = .ok (.ireturn, 1) := by decide +kernel
def jx_SF_used (p0 : Option Nat) (p1 : Int32) (p2 : Int32) (p3 : Int32) : sf_M (Int32) :=
  sf_bnd (sf_gR 0 0 p0) fun x1 =>
  sf_bnd (sf_gR 1 0 x1) fun x2 =>
  sf_bnd (sf_gR 4 0 x2) fun x3 =>
  sf_bnd (sf_gI 5 2 x3) fun x4 =>
  sf_bnd (sf_gR 0 0 p0) fun x5 =>
  sf_bnd (sf_gR 1 1 x5) fun x6 =>
  sf_bnd (sf_gR 0 0 p0) fun x7 =>
  sf_bnd (sf_gR 1 0 x7) fun x8 =>
  sf_bnd (sf_rc 10 x6 (jx_Ways_fillWithTickets x6 x8 p1)) fun _ =>
  sf_bnd (sf_gR 0 0 p0) fun x10 =>
  sf_bnd (sf_gR 1 1 x10) fun x11 =>
  sf_bnd (sf_rc 10 x11 (jx_Ways_least x11 x4 p2 (7 : Int32))) fun x12 =>
  if x12 < 0 then (
  sf_ret x12
  ) else (
  if p3 = (-1 : Int32) then (
  sf_ret x12
  ) else (
  sf_bnd (sf_gR 0 0 p0) fun x15 =>
  sf_bnd (sf_gR 1 1 x15) fun x16 =>
  sf_bnd (sf_rc 10 x16 (jx_Ways_endOf x16 x4 p2 p3)) fun x17 =>
  sf_ret x17
  )
  )
set_option maxRecDepth 20000 in
set_option maxHeartbeats 4000000 in
theorem ok_SF_used (p0 : Option Nat) (p1 : Int32) (p2 : Int32) (p3 : Int32) : sf_Ok ({ cls := "SplitFares", name := "used", desc := "(III)I" } : Jvm.MethodName) prog_1_method_31_code 6 (some .int) 4 [sf_rv p0, .int p1, .int p2, .int p3] (jx_SF_used p0 p1 p2 p3) (fun r => some (.int r)) := by
  refine sf_Ok.of (env := [some (sf_rv p0), some (.int p1), some (.int p2), some (.int p3), none, none]) (plainFor_of_name (by decide)) [false, false, false, false] (fun G => ⟨pk_r, pk_i, pk_i, pk_i, trivial⟩) (Nat.le_of_ble_eq_true rfl) rfl (fun X => ?_)
  unfold jx_SF_used
  refine fp_aload_n (i := 0) (r := p0) dd_SF_used_0 rfl rfl (fr_pc (pc' := 1) rfl ?_)
  refine fr_gR cl_0 0 (by decide) rfl sw_315 dd_SF_used_1 (fun x1 => fr_pc (pc' := 4) rfl ?_)
  refine fr_gR cl_1 0 (by decide) rfl sw_192 dd_SF_used_4 (fun x2 => fr_pc (pc' := 7) rfl ?_)
  refine fr_gR cl_4 0 (by decide) rfl sw_88 dd_SF_used_7 (fun x3 => fr_pc (pc' := 10) rfl ?_)
  refine fr_gI cl_5 2 (by decide) rfl sw_53 dd_SF_used_10 (fun x4 => fr_pc (pc' := 13) rfl ?_)
  refine fp_istore (i := 4) dd_SF_used_13 (Nat.le_of_ble_eq_true rfl) (fun _ => c1_i rfl) (fr_to (pc' := 15) (env' := [some (sf_rv p0), some (.int p1), some (.int p2), some (.int p3), some (.int x4), none]) (stk' := []) rfl rfl rfl ?_)
  refine fp_aload_n (i := 0) (r := p0) dd_SF_used_15 rfl rfl (fr_pc (pc' := 16) rfl ?_)
  refine fr_gR cl_0 0 (by decide) rfl sw_315 dd_SF_used_16 (fun x5 => fr_pc (pc' := 19) rfl ?_)
  refine fr_gR cl_1 1 (by decide) rfl sw_194 dd_SF_used_19 (fun x6 => fr_pc (pc' := 22) rfl ?_)
  refine fp_aload_n (i := 0) (r := p0) dd_SF_used_22 rfl rfl (fr_pc (pc' := 23) rfl ?_)
  refine fr_gR cl_0 0 (by decide) rfl sw_315 dd_SF_used_23 (fun x7 => fr_pc (pc' := 26) rfl ?_)
  refine fr_gR cl_1 0 (by decide) rfl sw_192 dd_SF_used_26 (fun x8 => fr_pc (pc' := 29) rfl ?_)
  refine fp_iload_n (i := 1) (x := p1) dd_SF_used_29 rfl rfl (fr_pc (pc' := 30) rfl ?_)
  refine fr_callV (stk := []) (As := [sf_rv x8, .int p1]) cl_10 (ok_Ways_fillWithTickets x6 x8 p1) mt_Ways_fillWithTickets rfl rfl sw_971 sw_799 sw_800 (by decide) (Nat.le_of_ble_eq_true rfl) dd_SF_used_30 (fun u9 => fr_to (pc' := 33) (env' := [some (sf_rv p0), some (.int p1), some (.int p2), some (.int p3), some (.int x4), none]) (stk' := []) rfl rfl rfl ?_)
  refine fp_aload_n (i := 0) (r := p0) dd_SF_used_33 rfl rfl (fr_pc (pc' := 34) rfl ?_)
  refine fr_gR cl_0 0 (by decide) rfl sw_315 dd_SF_used_34 (fun x10 => fr_pc (pc' := 37) rfl ?_)
  refine fr_gR cl_1 1 (by decide) rfl sw_194 dd_SF_used_37 (fun x11 => fr_pc (pc' := 40) rfl ?_)
  refine fp_iload (i := 4) (x := x4) dd_SF_used_40 rfl (fr_pc (pc' := 42) rfl ?_)
  refine fp_iload_n (i := 2) (x := p2) dd_SF_used_42 rfl rfl (fr_pc (pc' := 43) rfl ?_)
  refine fp_bipush (v := (7 : Int32)) dd_SF_used_43 (by decide) (fr_pc (pc' := 45) rfl ?_)
  refine fr_callV (stk := []) (As := [.int x4, .int p2, .int (7 : Int32)]) cl_10 (ok_Ways_least x11 x4 p2 (7 : Int32)) mt_Ways_least rfl rfl sw_907 sw_810 sw_811 (by decide) (Nat.le_of_ble_eq_true rfl) dd_SF_used_45 (fun x12 => fr_to (pc' := 48) (env' := [some (sf_rv p0), some (.int p1), some (.int p2), some (.int p3), some (.int x4), none]) (stk' := [.int x12]) rfl rfl rfl ?_)
  refine fp_istore (i := 5) dd_SF_used_48 (Nat.le_of_ble_eq_true rfl) (fun _ => c1_i rfl) (fr_to (pc' := 50) (env' := [some (sf_rv p0), some (.int p1), some (.int p2), some (.int p3), some (.int x4), some (.int x12)]) (stk' := []) rfl rfl rfl ?_)
  refine fp_iload (i := 5) (x := x12) dd_SF_used_50 rfl (fr_pc (pc' := 52) rfl ?_)
  refine fr_if_lt (tgt := 60) dd_SF_used_52 rfl (fun _ => ?_) (fun _ => ?_)
  · refine fp_iload (i := 5) (x := x12) dd_SF_used_60 rfl (fr_pc (pc' := 62) rfl ?_)
    exact fr_iret (v := x12) rfl rfl dd_SF_used_62
  · refine fr_pc (pc' := 55) rfl ?_
    refine fp_iload_n (i := 3) (x := p3) dd_SF_used_55 rfl rfl (fr_pc (pc' := 56) rfl ?_)
    refine fp_iconst (v := (-1 : Int32)) dd_SF_used_56 (by decide) (fr_pc (pc' := 57) rfl ?_)
    refine fr_icmp_ne (tgt := 63) dd_SF_used_57 rfl (fun _ => ?_) (fun _ => ?_)
    · refine fr_pc (pc' := 60) rfl ?_
      refine fp_iload (i := 5) (x := x12) dd_SF_used_60 rfl (fr_pc (pc' := 62) rfl ?_)
      exact fr_iret (v := x12) rfl rfl dd_SF_used_62
    · refine fp_aload_n (i := 0) (r := p0) dd_SF_used_63 rfl rfl (fr_pc (pc' := 64) rfl ?_)
      refine fr_gR cl_0 0 (by decide) rfl sw_315 dd_SF_used_64 (fun x15 => fr_pc (pc' := 67) rfl ?_)
      refine fr_gR cl_1 1 (by decide) rfl sw_194 dd_SF_used_67 (fun x16 => fr_pc (pc' := 70) rfl ?_)
      refine fp_iload (i := 4) (x := x4) dd_SF_used_70 rfl (fr_pc (pc' := 72) rfl ?_)
      refine fp_iload_n (i := 2) (x := p2) dd_SF_used_72 rfl rfl (fr_pc (pc' := 73) rfl ?_)
      refine fp_iload_n (i := 3) (x := p3) dd_SF_used_73 rfl rfl (fr_pc (pc' := 74) rfl ?_)
      refine fr_callV (stk := []) (As := [.int x4, .int p2, .int p3]) cl_10 (ok_Ways_endOf x16 x4 p2 p3) mt_Ways_endOf rfl rfl sw_908 sw_909 sw_910 (by decide) (Nat.le_of_ble_eq_true rfl) dd_SF_used_74 (fun x17 => fr_to (pc' := 77) (env' := [some (sf_rv p0), some (.int p1), some (.int p2), some (.int p3), some (.int x4), some (.int x12)]) (stk' := [.int x17]) rfl rfl rfl ?_)
      exact fr_iret (v := x17) rfl rfl dd_SF_used_77
theorem mt_SF_told : sf_Mt ({ cls := "SplitFares", name := "told", desc := "(II)I" } : Jvm.MethodName) prog_1_method_32_code 3 (some .int) 2 := ⟨sw_975, sw_1, ⟨by decide, by decide, by decide +kernel⟩, by decide⟩
theorem dd_SF_told_0 : decode prog_1_method_32_code 0 = .ok (.aload_n 0, 1) := by decide +kernel
theorem dd_SF_told_1 : decode prog_1_method_32_code 1 = .ok (.aload_n 0, 1) := by decide +kernel
theorem dd_SF_told_2 : decode prog_1_method_32_code 2 = .ok (.getfield 12, 3) := by decide +kernel
theorem dd_SF_told_5 : decode prog_1_method_32_code 5 = .ok (.getfield 67, 3) := by decide +kernel
theorem dd_SF_told_8 : decode prog_1_method_32_code 8 = .ok (.iload_n 1, 1) := by decide +kernel
theorem dd_SF_told_9 : decode prog_1_method_32_code 9 = .ok (.iload_n 2, 1) := by decide +kernel
theorem dd_SF_told_10 : decode prog_1_method_32_code 10 = .ok (.invokevirtual 259, 3) := by decide +kernel
theorem dd_SF_told_13 : decode prog_1_method_32_code 13 = .ok (.invokevirtual 75, 3) := by decide +kernel
theorem dd_SF_told_16 : decode prog_1_method_32_code 16 = .ok (.ireturn, 1) := by decide +kernel
def jx_SF_told (p0 : Option Nat) (p1 : Int32) (p2 : Int32) : sf_M (Int32) :=
  sf_bnd (sf_gR 0 0 p0) fun x1 =>
  sf_bnd (sf_gR 1 0 x1) fun x2 =>
  sf_bnd (sf_rc 4 x2 (jx_Office_addTold x2 p1 p2)) fun x3 =>
  sf_bnd (sf_rc 0 p0 (jx_SF_answered p0 x3)) fun x4 =>
  sf_ret x4
set_option maxRecDepth 20000 in
set_option maxHeartbeats 4000000 in
theorem ok_SF_told (p0 : Option Nat) (p1 : Int32) (p2 : Int32) : sf_Ok ({ cls := "SplitFares", name := "told", desc := "(II)I" } : Jvm.MethodName) prog_1_method_32_code 3 (some .int) 2 [sf_rv p0, .int p1, .int p2] (jx_SF_told p0 p1 p2) (fun r => some (.int r)) := by
  refine sf_Ok.of (env := [some (sf_rv p0), some (.int p1), some (.int p2)]) (plainFor_of_name (by decide)) [false, false, false] (fun G => ⟨pk_r, pk_i, pk_i, trivial⟩) (Nat.le_of_ble_eq_true rfl) rfl (fun X => ?_)
  unfold jx_SF_told
  refine fp_aload_n (i := 0) (r := p0) dd_SF_told_0 rfl rfl (fr_pc (pc' := 1) rfl ?_)
  refine fp_aload_n (i := 0) (r := p0) dd_SF_told_1 rfl rfl (fr_pc (pc' := 2) rfl ?_)
  refine fr_gR cl_0 0 (by decide) rfl sw_315 dd_SF_told_2 (fun x1 => fr_pc (pc' := 5) rfl ?_)
  refine fr_gR cl_1 0 (by decide) rfl sw_192 dd_SF_told_5 (fun x2 => fr_pc (pc' := 8) rfl ?_)
  refine fp_iload_n (i := 1) (x := p1) dd_SF_told_8 rfl rfl (fr_pc (pc' := 9) rfl ?_)
  refine fp_iload_n (i := 2) (x := p2) dd_SF_told_9 rfl rfl (fr_pc (pc' := 10) rfl ?_)
  refine fr_callV (stk := [sf_rv p0]) (As := [.int p1, .int p2]) cl_4 (ok_Office_addTold x2 p1 p2) mt_Office_addTold rfl rfl sw_976 sw_977 sw_978 (by decide) (Nat.le_of_ble_eq_true rfl) dd_SF_told_10 (fun x3 => fr_to (pc' := 13) (env' := [some (sf_rv p0), some (.int p1), some (.int p2)]) (stk' := [.int x3, sf_rv p0]) rfl rfl rfl ?_)
  refine fr_callV (stk := []) (As := [.int x3]) cl_0 (ok_SF_answered p0 x3) mt_SF_answered rfl rfl sw_370 sw_372 sp_0 (by decide) (Nat.le_of_ble_eq_true rfl) dd_SF_told_13 (fun x4 => fr_to (pc' := 16) (env' := [some (sf_rv p0), some (.int p1), some (.int p2)]) (stk' := [.int x4]) rfl rfl rfl ?_)
  exact fr_iret (v := x4) rfl rfl dd_SF_told_16
theorem mt_SF_forget : sf_Mt ({ cls := "SplitFares", name := "forget", desc := "()I" } : Jvm.MethodName) prog_1_method_33_code 2 (some .int) 0 := ⟨sw_985, sw_1, ⟨by decide, by decide, by decide +kernel⟩, by decide⟩
theorem dd_SF_forget_0 : decode prog_1_method_33_code 0 = .ok (.aload_n 0, 1) := by decide +kernel
theorem dd_SF_forget_1 : decode prog_1_method_33_code 1 = .ok (.getfield 12, 3) := by decide +kernel
theorem dd_SF_forget_4 : decode prog_1_method_33_code 4 = .ok (.getfield 67, 3) := by decide +kernel
theorem dd_SF_forget_7 : decode prog_1_method_33_code 7 = .ok (.getfield 262, 3) := by decide +kernel
theorem dd_SF_forget_10 : decode prog_1_method_33_code 10 = .ok (.istore_n 1, 1) := by decide +kernel
theorem dd_SF_forget_11 : decode prog_1_method_33_code 11 = .ok (.aload_n 0, 1) := by decide +kernel
theorem dd_SF_forget_12 : decode prog_1_method_33_code 12 = .ok (.getfield 12, 3) := by decide +kernel
theorem dd_SF_forget_15 : decode prog_1_method_33_code 15 = .ok (.getfield 67, 3) := by decide +kernel
theorem dd_SF_forget_18 : decode prog_1_method_33_code 18 = .ok (.iconst 0, 1) := by decide +kernel
theorem dd_SF_forget_19 : decode prog_1_method_33_code 19 = .ok (.putfield 262, 3) := by decide +kernel
theorem dd_SF_forget_22 : decode prog_1_method_33_code 22 = .ok (.iload_n 1, 1) := by decide +kernel
theorem dd_SF_forget_23 : decode prog_1_method_33_code 23 = .ok (.ireturn, 1) := by decide +kernel
def jx_SF_forget (p0 : Option Nat) : sf_M (Int32) :=
  sf_bnd (sf_gR 0 0 p0) fun x1 =>
  sf_bnd (sf_gR 1 0 x1) fun x2 =>
  sf_bnd (sf_gI 4 8 x2) fun x3 =>
  sf_bnd (sf_gR 0 0 p0) fun x4 =>
  sf_bnd (sf_gR 1 0 x4) fun x5 =>
  sf_bnd (sf_pI 4 8 x5 (0 : Int32)) fun _ =>
  sf_ret x3
set_option maxRecDepth 20000 in
set_option maxHeartbeats 4000000 in
theorem ok_SF_forget (p0 : Option Nat) : sf_Ok ({ cls := "SplitFares", name := "forget", desc := "()I" } : Jvm.MethodName) prog_1_method_33_code 2 (some .int) 0 [sf_rv p0] (jx_SF_forget p0) (fun r => some (.int r)) := by
  refine sf_Ok.of (env := [some (sf_rv p0), none]) (plainFor_of_name (by decide)) [false] (fun G => ⟨pk_r, trivial⟩) (Nat.le_of_ble_eq_true rfl) rfl (fun X => ?_)
  unfold jx_SF_forget
  refine fp_aload_n (i := 0) (r := p0) dd_SF_forget_0 rfl rfl (fr_pc (pc' := 1) rfl ?_)
  refine fr_gR cl_0 0 (by decide) rfl sw_315 dd_SF_forget_1 (fun x1 => fr_pc (pc' := 4) rfl ?_)
  refine fr_gR cl_1 0 (by decide) rfl sw_192 dd_SF_forget_4 (fun x2 => fr_pc (pc' := 7) rfl ?_)
  refine fr_gI cl_4 8 (by decide) rfl sw_105 dd_SF_forget_7 (fun x3 => fr_pc (pc' := 10) rfl ?_)
  refine fp_istore_n (i := 1) dd_SF_forget_10 rfl (Nat.le_of_ble_eq_true rfl) (fun _ => c1_r rfl) (fr_to (pc' := 11) (env' := [some (sf_rv p0), some (.int x3)]) (stk' := []) rfl rfl rfl ?_)
  refine fp_aload_n (i := 0) (r := p0) dd_SF_forget_11 rfl rfl (fr_pc (pc' := 12) rfl ?_)
  refine fr_gR cl_0 0 (by decide) rfl sw_315 dd_SF_forget_12 (fun x4 => fr_pc (pc' := 15) rfl ?_)
  refine fr_gR cl_1 0 (by decide) rfl sw_192 dd_SF_forget_15 (fun x5 => fr_pc (pc' := 18) rfl ?_)
  refine fp_iconst (v := (0 : Int32)) dd_SF_forget_18 (by decide) (fr_pc (pc' := 19) rfl ?_)
  refine fr_pI cl_4 8 (by decide) rfl sw_105 rfl ⟨rfl, rfl⟩ dd_SF_forget_19 (fr_pc (pc' := 22) rfl ?_)
  refine fp_iload_n (i := 1) (x := x3) dd_SF_forget_22 rfl rfl (fr_pc (pc' := 23) rfl ?_)
  exact fr_iret (v := x3) rfl rfl dd_SF_forget_23
theorem mt_SF_answerOf : sf_Mt ({ cls := "SplitFares", name := "answerOf", desc := "(II)I" } : Jvm.MethodName) prog_1_method_53_code 4 (some .int) 2 := ⟨sw_997, sw_1, ⟨by decide, by decide, by decide +kernel⟩, by decide⟩
theorem dd_SF_answerOf_0 : decode prog_1_method_53_code 0 = .ok (.iload_n 1, 1) := by decide +kernel
theorem dd_SF_answerOf_1 : decode prog_1_method_53_code 1 = .ok (.bipush 8, 2) := by decide +kernel
theorem dd_SF_answerOf_3 : decode prog_1_method_53_code 3 = .ok (.imul, 1) := by decide +kernel
theorem dd_SF_answerOf_4 : decode prog_1_method_53_code 4 = .ok (.iload_n 2, 1) := by decide +kernel
theorem dd_SF_answerOf_5 : decode prog_1_method_53_code 5 = .ok (.iadd, 1) := by decide +kernel
theorem dd_SF_answerOf_6 : decode prog_1_method_53_code 6 = .ok (.istore_n 3, 1) := by decide +kernel
theorem dd_SF_answerOf_7 : decode prog_1_method_53_code 7 = .ok (.iload_n 3, 1) := by decide +kernel
theorem dd_SF_answerOf_8 : decode prog_1_method_53_code 8 = .ok (.ifCond .lt 21, 3) := by decide +kernel
theorem dd_SF_answerOf_11 : decode prog_1_method_53_code 11 = .ok (.iload_n 3, 1) := by decide +kernel
theorem dd_SF_answerOf_12 : decode prog_1_method_53_code 12 = .ok (.aload_n 0, 1) := by decide +kernel
theorem dd_SF_answerOf_13 : decode prog_1_method_53_code 13 = .ok (.getfield 40, 3) := by decide +kernel
theorem dd_SF_answerOf_16 : decode prog_1_method_53_code 16 = .ok (.arraylength, 1) := by decide +kernel
theorem dd_SF_answerOf_17 : decode prog_1_method_53_code 17 = .ok (.if_icmp .ge 12, 3) := by decide +kernel
theorem dd_SF_answerOf_20 : decode prog_1_method_53_code 20 = .ok (.aload_n 0, 1) := by decide +kernel
theorem dd_SF_answerOf_21 : decode prog_1_method_53_code 21 = .ok (.getfield 40, 3) := by decide +kernel
theorem dd_SF_answerOf_24 : decode prog_1_method_53_code 24 = .ok (.iload_n 3, 1) := by decide +kernel
theorem dd_SF_answerOf_25 : decode prog_1_method_53_code 25 = .ok (.iaload, 1) := by decide +kernel
theorem dd_SF_answerOf_26 : decode prog_1_method_53_code 26 = .ok (.goto 4, 3) := by decide +kernel
theorem dd_SF_answerOf_29 : decode prog_1_method_53_code 29 = .ok (.iconst (-1), 1) := by decide +kernel
theorem dd_SF_answerOf_30 : decode prog_1_method_53_code 30 = .ok (.ireturn, 1) := by decide +kernel
def jx_SF_answerOf (p0 : Option Nat) (p1 : Int32) (p2 : Int32) : sf_M (Int32) :=
  sf_bnd (sf_ret (((p1 * (8 : Int32)) + p2))) fun y1 =>
  if y1 < 0 then (
  sf_ret (-1 : Int32)
  ) else (
  sf_bnd (sf_gR 0 5 p0) fun x3 =>
  sf_bnd (sf_len x3) fun x4 =>
  if x4 ≤ y1 then (
  sf_ret (-1 : Int32)
  ) else (
  sf_bnd (sf_gR 0 5 p0) fun x6 =>
  sf_bnd (sf_aI 0 x6 y1) fun x7 =>
  sf_ret x7
  )
  )
set_option maxRecDepth 20000 in
set_option maxHeartbeats 4000000 in
theorem ok_SF_answerOf (p0 : Option Nat) (p1 : Int32) (p2 : Int32) : sf_Ok ({ cls := "SplitFares", name := "answerOf", desc := "(II)I" } : Jvm.MethodName) prog_1_method_53_code 4 (some .int) 0 [sf_rv p0, .int p1, .int p2] (jx_SF_answerOf p0 p1 p2) (fun r => some (.int r)) := by
  refine sf_Ok.of (env := [some (sf_rv p0), some (.int p1), some (.int p2), none]) (plainFor_of_name (by decide)) [false, false, false] (fun G => ⟨pk_r, pk_i, pk_i, trivial⟩) (Nat.le_of_ble_eq_true rfl) rfl (fun X => ?_)
  unfold jx_SF_answerOf
  refine fp_iload_n (i := 1) (x := p1) dd_SF_answerOf_0 rfl rfl (fr_pc (pc' := 1) rfl ?_)
  refine fp_bipush (v := (8 : Int32)) dd_SF_answerOf_1 (by decide) (fr_pc (pc' := 3) rfl ?_)
  refine fp_imul dd_SF_answerOf_3 (fr_pc (pc' := 4) rfl ?_)
  refine fp_iload_n (i := 2) (x := p2) dd_SF_answerOf_4 rfl rfl (fr_pc (pc' := 5) rfl ?_)
  refine fp_iadd dd_SF_answerOf_5 (fr_pc (pc' := 6) rfl ?_)
  refine fr_nistore_n (i := 3) dd_SF_answerOf_6 rfl (Nat.le_of_ble_eq_true rfl) (fun _ => c1_i rfl) (fun y1 => fr_to (pc' := 7) (env' := [some (sf_rv p0), some (.int p1), some (.int p2), some (.int y1)]) (stk' := []) rfl rfl rfl ?_)
  refine fp_iload_n (i := 3) (x := y1) dd_SF_answerOf_7 rfl rfl (fr_pc (pc' := 8) rfl ?_)
  refine fr_if_lt (tgt := 29) dd_SF_answerOf_8 rfl (fun _ => ?_) (fun _ => ?_)
  · refine fp_iconst (v := (-1 : Int32)) dd_SF_answerOf_29 (by decide) (fr_pc (pc' := 30) rfl ?_)
    exact fr_iret (v := (-1 : Int32)) rfl rfl dd_SF_answerOf_30
  · refine fr_pc (pc' := 11) rfl ?_
    refine fp_iload_n (i := 3) (x := y1) dd_SF_answerOf_11 rfl rfl (fr_pc (pc' := 12) rfl ?_)
    refine fp_aload_n (i := 0) (r := p0) dd_SF_answerOf_12 rfl rfl (fr_pc (pc' := 13) rfl ?_)
    refine fr_gR cl_0 5 (by decide) rfl sw_320 dd_SF_answerOf_13 (fun x3 => fr_pc (pc' := 16) rfl ?_)
    refine fr_len dd_SF_answerOf_16 (fun x4 => fr_pc (pc' := 17) rfl ?_)
    refine fr_icmp_ge (tgt := 29) dd_SF_answerOf_17 rfl (fun _ => ?_) (fun _ => ?_)
    · refine fp_iconst (v := (-1 : Int32)) dd_SF_answerOf_29 (by decide) (fr_pc (pc' := 30) rfl ?_)
      exact fr_iret (v := (-1 : Int32)) rfl rfl dd_SF_answerOf_30
    · refine fr_pc (pc' := 20) rfl ?_
      refine fp_aload_n (i := 0) (r := p0) dd_SF_answerOf_20 rfl rfl (fr_pc (pc' := 21) rfl ?_)
      refine fr_gR cl_0 5 (by decide) rfl sw_320 dd_SF_answerOf_21 (fun x6 => fr_pc (pc' := 24) rfl ?_)
      refine fp_iload_n (i := 3) (x := y1) dd_SF_answerOf_24 rfl rfl (fr_pc (pc' := 25) rfl ?_)
      refine fr_aI0 dd_SF_answerOf_25 (fun x7 => fr_pc (pc' := 26) rfl ?_)
      refine fp_goto (tgt := 30) dd_SF_answerOf_26 rfl ?_
      exact fr_iret (v := x7) rfl rfl dd_SF_answerOf_30
theorem mt_SF_trainsThatFit : sf_Mt ({ cls := "SplitFares", name := "trainsThatFit", desc := "()I" } : Jvm.MethodName) prog_1_method_54_code 6 (some .int) 0 := ⟨sw_993, sw_1, ⟨by decide, by decide, by decide +kernel⟩, by decide⟩
theorem dd_SF_trainsThatFit_0 : decode prog_1_method_54_code 0 = .ok (.aload_n 0, 1) := by decide +kernel
theorem dd_SF_trainsThatFit_1 : decode prog_1_method_54_code 1 = .ok (.getfield 12, 3) := by decide +kernel
theorem dd_SF_trainsThatFit_4 : decode prog_1_method_54_code 4 = .ok (.getfield 67, 3) := by decide +kernel
theorem dd_SF_trainsThatFit_7 : decode prog_1_method_54_code 7 = .ok (.astore_n 1, 1) := by decide +kernel
theorem dd_SF_trainsThatFit_8 : decode prog_1_method_54_code 8 = .ok (.iconst 0, 1) := by decide +kernel
theorem dd_SF_trainsThatFit_9 : decode prog_1_method_54_code 9 = .ok (.istore_n 2, 1) := by decide +kernel
theorem dd_SF_trainsThatFit_10 : decode prog_1_method_54_code 10 = .ok (.iconst 0, 1) := by decide +kernel
theorem dd_SF_trainsThatFit_11 : decode prog_1_method_54_code 11 = .ok (.istore_n 3, 1) := by decide +kernel
theorem dd_SF_trainsThatFit_12 : decode prog_1_method_54_code 12 = .ok (.iload_n 3, 1) := by decide +kernel
theorem dd_SF_trainsThatFit_13 : decode prog_1_method_54_code 13 = .ok (.bipush 6, 2) := by decide +kernel
theorem dd_SF_trainsThatFit_15 : decode prog_1_method_54_code 15 = .ok (.if_icmp .ge 90, 3) := by decide +kernel
theorem dd_SF_trainsThatFit_18 : decode prog_1_method_54_code 18 = .ok (.aload_n 1, 1) := by decide +kernel
theorem dd_SF_trainsThatFit_19 : decode prog_1_method_54_code 19 = .ok (.iload_n 3, 1) := by decide +kernel
theorem dd_SF_trainsThatFit_20 : decode prog_1_method_54_code 20 = .ok (.invokevirtual 79, 3) := by decide +kernel
theorem dd_SF_trainsThatFit_23 : decode prog_1_method_54_code 23 = .ok (.ifCond .eq 82, 3) := by decide +kernel
theorem dd_SF_trainsThatFit_26 : decode prog_1_method_54_code 26 = .ok (.iconst 1, 1) := by decide +kernel
theorem dd_SF_trainsThatFit_27 : decode prog_1_method_54_code 27 = .ok (.istore 4, 2) := by decide +kernel
theorem dd_SF_trainsThatFit_29 : decode prog_1_method_54_code 29 = .ok (.iconst 0, 1) := by decide +kernel
theorem dd_SF_trainsThatFit_30 : decode prog_1_method_54_code 30 = .ok (.istore 5, 2) := by decide +kernel
theorem dd_SF_trainsThatFit_32 : decode prog_1_method_54_code 32 = .ok (.iload 5, 2) := by decide +kernel
theorem dd_SF_trainsThatFit_34 : decode prog_1_method_54_code 34 = .ok (.bipush 6, 2) := by decide +kernel
theorem dd_SF_trainsThatFit_36 : decode prog_1_method_54_code 36 = .ok (.if_icmp .ge 52, 3) := by decide +kernel
theorem dd_SF_trainsThatFit_39 : decode prog_1_method_54_code 39 = .ok (.iload 5, 2) := by decide +kernel
theorem dd_SF_trainsThatFit_41 : decode prog_1_method_54_code 41 = .ok (.aload_n 1, 1) := by decide +kernel
theorem dd_SF_trainsThatFit_42 : decode prog_1_method_54_code 42 = .ok (.getfield 262, 3) := by decide +kernel
theorem dd_SF_trainsThatFit_45 : decode prog_1_method_54_code 45 = .ok (.if_icmp .ge 43, 3) := by decide +kernel
theorem dd_SF_trainsThatFit_48 : decode prog_1_method_54_code 48 = .ok (.iload 4, 2) := by decide +kernel
theorem dd_SF_trainsThatFit_50 : decode prog_1_method_54_code 50 = .ok (.ifCond .eq 29, 3) := by decide +kernel
theorem dd_SF_trainsThatFit_53 : decode prog_1_method_54_code 53 = .ok (.aload_n 0, 1) := by decide +kernel
theorem dd_SF_trainsThatFit_54 : decode prog_1_method_54_code 54 = .ok (.iload_n 3, 1) := by decide +kernel
theorem dd_SF_trainsThatFit_55 : decode prog_1_method_54_code 55 = .ok (.aload_n 1, 1) := by decide +kernel
theorem dd_SF_trainsThatFit_56 : decode prog_1_method_54_code 56 = .ok (.getfield 316, 3) := by decide +kernel
theorem dd_SF_trainsThatFit_59 : decode prog_1_method_54_code 59 = .ok (.iload 5, 2) := by decide +kernel
theorem dd_SF_trainsThatFit_61 : decode prog_1_method_54_code 61 = .ok (.iaload, 1) := by decide +kernel
theorem dd_SF_trainsThatFit_62 : decode prog_1_method_54_code 62 = .ok (.invokevirtual 319, 3) := by decide +kernel
theorem dd_SF_trainsThatFit_65 : decode prog_1_method_54_code 65 = .ok (.aload_n 1, 1) := by decide +kernel
theorem dd_SF_trainsThatFit_66 : decode prog_1_method_54_code 66 = .ok (.getfield 322, 3) := by decide +kernel
theorem dd_SF_trainsThatFit_69 : decode prog_1_method_54_code 69 = .ok (.iload 5, 2) := by decide +kernel
theorem dd_SF_trainsThatFit_71 : decode prog_1_method_54_code 71 = .ok (.iaload, 1) := by decide +kernel
theorem dd_SF_trainsThatFit_72 : decode prog_1_method_54_code 72 = .ok (.if_icmp .ne 7, 3) := by decide +kernel
theorem dd_SF_trainsThatFit_75 : decode prog_1_method_54_code 75 = .ok (.iconst 1, 1) := by decide +kernel
theorem dd_SF_trainsThatFit_76 : decode prog_1_method_54_code 76 = .ok (.goto 4, 3) := by decide +kernel
theorem dd_SF_trainsThatFit_79 : decode prog_1_method_54_code 79 = .ok (.iconst 0, 1) := by decide +kernel
theorem dd_SF_trainsThatFit_80 : decode prog_1_method_54_code 80 = .ok (.istore 4, 2) := by decide +kernel
theorem dd_SF_trainsThatFit_82 : decode prog_1_method_54_code 82 = .ok (.iinc 5 1, 3) := by decide +kernel
theorem dd_SF_trainsThatFit_85 : decode prog_1_method_54_code 85 = .ok (.goto (-53), 3) := by decide +kernel
theorem dd_SF_trainsThatFit_88 : decode prog_1_method_54_code 88 = .ok (.iload 4, 2) := by decide +kernel
theorem dd_SF_trainsThatFit_90 : decode prog_1_method_54_code 90 = .ok (.ifCond .eq 9, 3) := by decide +kernel
theorem dd_SF_trainsThatFit_93 : decode prog_1_method_54_code 93 = .ok (.iload_n 2, 1) := by decide +kernel
theorem dd_SF_trainsThatFit_94 : decode prog_1_method_54_code 94 = .ok (.iconst 1, 1) := by decide +kernel
theorem dd_SF_trainsThatFit_95 : decode prog_1_method_54_code 95 = .ok (.iload_n 3, 1) := by decide +kernel
theorem dd_SF_trainsThatFit_96 : decode prog_1_method_54_code 96 = .ok (.ishl, 1) := by decide +kernel
theorem dd_SF_trainsThatFit_97 : decode prog_1_method_54_code 97 = .ok (.ior, 1) := by decide +kernel
theorem dd_SF_trainsThatFit_98 : decode prog_1_method_54_code 98 = .ok (.istore_n 2, 1) := by decide +kernel
theorem dd_SF_trainsThatFit_99 : decode prog_1_method_54_code 99 = .ok (.iinc 3 1, 3) := by decide +kernel
theorem dd_SF_trainsThatFit_102 : decode prog_1_method_54_code 102 = .ok (.goto (-90), 3) := by decide +kernel
theorem dd_SF_trainsThatFit_105 : decode prog_1_method_54_code 105 = .ok (.iload_n 2, 1) := by decide +kernel
theorem dd_SF_trainsThatFit_106 : decode prog_1_method_54_code 106 = .ok (.ireturn, 1) := by decide +kernel
def jx_SF_trainsThatFit (p0 : Option Nat) : sf_M (Int32) :=
  sf_bnd (sf_gR 0 0 p0) fun x1 =>
  sf_bnd (sf_gR 1 0 x1) fun x2 =>
  sf_bnd (sf_loop (β := (Int32 × Int32)) (γ := (Int32)) (fun b3 =>
  if (6 : Int32) ≤ b3.2 then (
  sf_ret (.inr b3.1)
  ) else (
  sf_bnd (sf_rc 4 x2 (jx_Office_hasTrain x2 b3.2)) fun x5 =>
  if x5 = 0 then (
  sf_ret (.inr b3.1)
  ) else (
  sf_bnd (sf_loop (β := (Int32 × Int32)) (γ := (Int32)) (fun b7 =>
  if (6 : Int32) ≤ b7.2 then (
  sf_ret (.inr b7.1)
  ) else (
  sf_bnd (sf_gI 4 8 x2) fun x9 =>
  if x9 ≤ b7.2 then (
  sf_ret (.inr b7.1)
  ) else (
  if b7.1 = 0 then (
  sf_bnd (sf_ret (b7.2 + (1 : Int32))) fun y12 =>
  sf_ret (.inl ((0 : Int32), y12))
  ) else (
  sf_bnd (sf_gR 4 9 x2) fun x13 =>
  sf_bnd (sf_aI 0 x13 b7.2) fun x14 =>
  sf_bnd (sf_rc 0 p0 (jx_SF_answerOf p0 b3.2 x14)) fun x15 =>
  sf_bnd (sf_gR 4 10 x2) fun x16 =>
  sf_bnd (sf_aI 0 x16 b7.2) fun x17 =>
  if x15 = x17 then (
  sf_bnd (sf_ret (b7.2 + (1 : Int32))) fun y19 =>
  sf_ret (.inl ((1 : Int32), y19))
  ) else (
  sf_bnd (sf_ret (b7.2 + (1 : Int32))) fun y20 =>
  sf_ret (.inl ((0 : Int32), y20))
  )
  )
  )
  )
  ) sf_fuel ((1 : Int32), (0 : Int32))) (fun e21 =>
  if e21 = 0 then (
  sf_bnd (sf_ret (b3.2 + (1 : Int32))) fun y23 =>
  sf_ret (.inl (b3.1, y23))
  ) else (
  sf_bnd (sf_ret ((b3.1 ||| ((1 : Int32) <<< (b3.2 &&& 31))))) fun y24 =>
  sf_bnd (sf_ret (b3.2 + (1 : Int32))) fun y25 =>
  sf_ret (.inl (y24, y25))
  )
  )
  )
  )
  ) sf_fuel ((0 : Int32), (0 : Int32))) (fun e26 =>
  sf_ret e26
  )
set_option maxRecDepth 20000 in
set_option maxHeartbeats 4000000 in
theorem ok_SF_trainsThatFit (p0 : Option Nat) : sf_Ok ({ cls := "SplitFares", name := "trainsThatFit", desc := "()I" } : Jvm.MethodName) prog_1_method_54_code 6 (some .int) 1 [sf_rv p0] (jx_SF_trainsThatFit p0) (fun r => some (.int r)) := by
  refine sf_Ok.of (env := [some (sf_rv p0), none, none, none, none, none]) (plainFor_of_name (by decide)) [false] (fun G => ⟨pk_r, trivial⟩) (Nat.le_of_ble_eq_true rfl) rfl (fun X => ?_)
  unfold jx_SF_trainsThatFit
  refine fp_aload_n (i := 0) (r := p0) dd_SF_trainsThatFit_0 rfl rfl (fr_pc (pc' := 1) rfl ?_)
  refine fr_gR cl_0 0 (by decide) rfl sw_315 dd_SF_trainsThatFit_1 (fun x1 => fr_pc (pc' := 4) rfl ?_)
  refine fr_gR cl_1 0 (by decide) rfl sw_192 dd_SF_trainsThatFit_4 (fun x2 => fr_pc (pc' := 7) rfl ?_)
  refine fp_astore_n (i := 1) dd_SF_trainsThatFit_7 rfl (Nat.le_of_ble_eq_true rfl) (fun _ => c1_r rfl) (fr_to (pc' := 8) (env' := [some (sf_rv p0), some (sf_rv x2), none, none, none, none]) (stk' := []) rfl rfl rfl ?_)
  refine fp_iconst (v := (0 : Int32)) dd_SF_trainsThatFit_8 (by decide) (fr_pc (pc' := 9) rfl ?_)
  refine fp_istore_n (i := 2) dd_SF_trainsThatFit_9 rfl (Nat.le_of_ble_eq_true rfl) (fun _ => c1_r rfl) (fr_to (pc' := 10) (env' := [some (sf_rv p0), some (sf_rv x2), some (.int (0 : Int32)), none, none, none]) (stk' := []) rfl rfl rfl ?_)
  refine fp_iconst (v := (0 : Int32)) dd_SF_trainsThatFit_10 (by decide) (fr_pc (pc' := 11) rfl ?_)
  refine fp_istore_n (i := 3) dd_SF_trainsThatFit_11 rfl (Nat.le_of_ble_eq_true rfl) (fun _ => c1_i rfl) (fr_to (pc' := 12) (env' := [some (sf_rv p0), some (sf_rv x2), some (.int (0 : Int32)), some (.int (0 : Int32)), none, none]) (stk' := []) rfl rfl rfl ?_)
  refine fr_to (pc' := 12) (env' := [some (sf_rv p0), some (sf_rv x2), some (.int (0 : Int32)), some (.int (0 : Int32)), none, none]) (stk' := []) rfl rfl rfl ?_
  refine fr_bnd (l1 := (fun (e26 : (Int32)) => sf_p 105 [some (sf_rv p0), some (sf_rv x2), some (.int e26), none, none, none] [])) (fr_loop (Lb := (fun (b3 : (Int32 × Int32)) => sf_p 12 [some (sf_rv p0), some (sf_rv x2), some (.int b3.1), some (.int b3.2), none, none] [])) (fun b3 => ?_) _ _) (fun e26 => ?_)
  · refine fp_iload_n (i := 3) (x := b3.2) dd_SF_trainsThatFit_12 rfl rfl (fr_pc (pc' := 13) rfl ?_)
    refine fp_bipush (v := (6 : Int32)) dd_SF_trainsThatFit_13 (by decide) (fr_pc (pc' := 15) rfl ?_)
    refine fr_icmp_ge (tgt := 105) dd_SF_trainsThatFit_15 rfl (fun _ => ?_) (fun _ => ?_)
    · refine fr_wk [true, true, true, false, false, false] ?_
      exact fr_ret rfl
    · refine fr_pc (pc' := 18) rfl ?_
      refine fp_aload_n (i := 1) (r := x2) dd_SF_trainsThatFit_18 rfl rfl (fr_pc (pc' := 19) rfl ?_)
      refine fp_iload_n (i := 3) (x := b3.2) dd_SF_trainsThatFit_19 rfl rfl (fr_pc (pc' := 20) rfl ?_)
      refine fr_callV (stk := []) (As := [.int b3.2]) cl_4 (ok_Office_hasTrain x2 b3.2) mt_Office_hasTrain rfl rfl sw_386 sw_387 sw_388 (by decide) (Nat.le_of_ble_eq_true rfl) dd_SF_trainsThatFit_20 (fun x5 => fr_to (pc' := 23) (env' := [some (sf_rv p0), some (sf_rv x2), some (.int b3.1), some (.int b3.2), none, none]) (stk' := [.int x5]) rfl rfl rfl ?_)
      refine fr_if_eq (tgt := 105) dd_SF_trainsThatFit_23 rfl (fun _ => ?_) (fun _ => ?_)
      · refine fr_wk [true, true, true, false, false, false] ?_
        exact fr_ret rfl
      · refine fr_pc (pc' := 26) rfl ?_
        refine fp_iconst (v := (1 : Int32)) dd_SF_trainsThatFit_26 (by decide) (fr_pc (pc' := 27) rfl ?_)
        refine fp_istore (i := 4) dd_SF_trainsThatFit_27 (Nat.le_of_ble_eq_true rfl) (fun _ => c1_i rfl) (fr_to (pc' := 29) (env' := [some (sf_rv p0), some (sf_rv x2), some (.int b3.1), some (.int b3.2), some (.int (1 : Int32)), none]) (stk' := []) rfl rfl rfl ?_)
        refine fp_iconst (v := (0 : Int32)) dd_SF_trainsThatFit_29 (by decide) (fr_pc (pc' := 30) rfl ?_)
        refine fp_istore (i := 5) dd_SF_trainsThatFit_30 (Nat.le_of_ble_eq_true rfl) (fun _ => c1_i rfl) (fr_to (pc' := 32) (env' := [some (sf_rv p0), some (sf_rv x2), some (.int b3.1), some (.int b3.2), some (.int (1 : Int32)), some (.int (0 : Int32))]) (stk' := []) rfl rfl rfl ?_)
        refine fr_to (pc' := 32) (env' := [some (sf_rv p0), some (sf_rv x2), some (.int b3.1), some (.int b3.2), some (.int (1 : Int32)), some (.int (0 : Int32))]) (stk' := []) rfl rfl rfl ?_
        refine fr_bnd (l1 := (fun (e21 : (Int32)) => sf_p 88 [some (sf_rv p0), some (sf_rv x2), some (.int b3.1), some (.int b3.2), some (.int e21), none] [])) (fr_loop (Lb := (fun (b7 : (Int32 × Int32)) => sf_p 32 [some (sf_rv p0), some (sf_rv x2), some (.int b3.1), some (.int b3.2), some (.int b7.1), some (.int b7.2)] [])) (fun b7 => ?_) _ _) (fun e21 => ?_)
        · refine fp_iload (i := 5) (x := b7.2) dd_SF_trainsThatFit_32 rfl (fr_pc (pc' := 34) rfl ?_)
          refine fp_bipush (v := (6 : Int32)) dd_SF_trainsThatFit_34 (by decide) (fr_pc (pc' := 36) rfl ?_)
          refine fr_icmp_ge (tgt := 88) dd_SF_trainsThatFit_36 rfl (fun _ => ?_) (fun _ => ?_)
          · refine fr_wk [true, true, true, true, true, false] ?_
            exact fr_ret rfl
          · refine fr_pc (pc' := 39) rfl ?_
            refine fp_iload (i := 5) (x := b7.2) dd_SF_trainsThatFit_39 rfl (fr_pc (pc' := 41) rfl ?_)
            refine fp_aload_n (i := 1) (r := x2) dd_SF_trainsThatFit_41 rfl rfl (fr_pc (pc' := 42) rfl ?_)
            refine fr_gI cl_4 8 (by decide) rfl sw_105 dd_SF_trainsThatFit_42 (fun x9 => fr_pc (pc' := 45) rfl ?_)
            refine fr_icmp_ge (tgt := 88) dd_SF_trainsThatFit_45 rfl (fun _ => ?_) (fun _ => ?_)
            · refine fr_wk [true, true, true, true, true, false] ?_
              exact fr_ret rfl
            · refine fr_pc (pc' := 48) rfl ?_
              refine fp_iload (i := 4) (x := b7.1) dd_SF_trainsThatFit_48 rfl (fr_pc (pc' := 50) rfl ?_)
              refine fr_if_eq (tgt := 79) dd_SF_trainsThatFit_50 rfl (fun _ => ?_) (fun _ => ?_)
              · refine fp_iconst (v := (0 : Int32)) dd_SF_trainsThatFit_79 (by decide) (fr_pc (pc' := 80) rfl ?_)
                refine fp_istore (i := 4) dd_SF_trainsThatFit_80 (Nat.le_of_ble_eq_true rfl) (fun _ => c1_i rfl) (fr_to (pc' := 82) (env' := [some (sf_rv p0), some (sf_rv x2), some (.int b3.1), some (.int b3.2), some (.int (0 : Int32)), some (.int b7.2)]) (stk' := []) rfl rfl rfl ?_)
                refine fr_niinc (i := 5) (x := b7.2) (w := (1 : Int32)) dd_SF_trainsThatFit_82 rfl (by decide) (Nat.le_of_ble_eq_true rfl) (fun _ => c1_i rfl) (fun y12 => fr_to (pc' := 85) (env' := [some (sf_rv p0), some (sf_rv x2), some (.int b3.1), some (.int b3.2), some (.int (0 : Int32)), some (.int y12)]) (stk' := []) rfl rfl rfl ?_)
                refine fp_goto (tgt := 32) dd_SF_trainsThatFit_85 rfl ?_
                exact fr_ret rfl
              · refine fr_pc (pc' := 53) rfl ?_
                refine fp_aload_n (i := 0) (r := p0) dd_SF_trainsThatFit_53 rfl rfl (fr_pc (pc' := 54) rfl ?_)
                refine fp_iload_n (i := 3) (x := b3.2) dd_SF_trainsThatFit_54 rfl rfl (fr_pc (pc' := 55) rfl ?_)
                refine fp_aload_n (i := 1) (r := x2) dd_SF_trainsThatFit_55 rfl rfl (fr_pc (pc' := 56) rfl ?_)
                refine fr_gR cl_4 9 (by decide) rfl sw_107 dd_SF_trainsThatFit_56 (fun x13 => fr_pc (pc' := 59) rfl ?_)
                refine fp_iload (i := 5) (x := b7.2) dd_SF_trainsThatFit_59 rfl (fr_pc (pc' := 61) rfl ?_)
                refine fr_aI0 dd_SF_trainsThatFit_61 (fun x14 => fr_pc (pc' := 62) rfl ?_)
                refine fr_callV (stk := []) (As := [.int b3.2, .int x14]) cl_0 (ok_SF_answerOf p0 b3.2 x14) mt_SF_answerOf rfl rfl sw_994 sw_996 sp_25 (by decide) (Nat.le_of_ble_eq_true rfl) dd_SF_trainsThatFit_62 (fun x15 => fr_to (pc' := 65) (env' := [some (sf_rv p0), some (sf_rv x2), some (.int b3.1), some (.int b3.2), some (.int b7.1), some (.int b7.2)]) (stk' := [.int x15]) rfl rfl rfl ?_)
                refine fp_aload_n (i := 1) (r := x2) dd_SF_trainsThatFit_65 rfl rfl (fr_pc (pc' := 66) rfl ?_)
                refine fr_gR cl_4 10 (by decide) rfl sw_109 dd_SF_trainsThatFit_66 (fun x16 => fr_pc (pc' := 69) rfl ?_)
                refine fp_iload (i := 5) (x := b7.2) dd_SF_trainsThatFit_69 rfl (fr_pc (pc' := 71) rfl ?_)
                refine fr_aI0 dd_SF_trainsThatFit_71 (fun x17 => fr_pc (pc' := 72) rfl ?_)
                refine fr_icmp_ne (tgt := 79) dd_SF_trainsThatFit_72 rfl (fun _ => ?_) (fun _ => ?_)
                · refine fr_pc (pc' := 75) rfl ?_
                  refine fp_iconst (v := (1 : Int32)) dd_SF_trainsThatFit_75 (by decide) (fr_pc (pc' := 76) rfl ?_)
                  refine fp_goto (tgt := 80) dd_SF_trainsThatFit_76 rfl ?_
                  refine fp_istore (i := 4) dd_SF_trainsThatFit_80 (Nat.le_of_ble_eq_true rfl) (fun _ => c1_i rfl) (fr_to (pc' := 82) (env' := [some (sf_rv p0), some (sf_rv x2), some (.int b3.1), some (.int b3.2), some (.int (1 : Int32)), some (.int b7.2)]) (stk' := []) rfl rfl rfl ?_)
                  refine fr_niinc (i := 5) (x := b7.2) (w := (1 : Int32)) dd_SF_trainsThatFit_82 rfl (by decide) (Nat.le_of_ble_eq_true rfl) (fun _ => c1_i rfl) (fun y19 => fr_to (pc' := 85) (env' := [some (sf_rv p0), some (sf_rv x2), some (.int b3.1), some (.int b3.2), some (.int (1 : Int32)), some (.int y19)]) (stk' := []) rfl rfl rfl ?_)
                  refine fp_goto (tgt := 32) dd_SF_trainsThatFit_85 rfl ?_
                  exact fr_ret rfl
                · refine fp_iconst (v := (0 : Int32)) dd_SF_trainsThatFit_79 (by decide) (fr_pc (pc' := 80) rfl ?_)
                  refine fp_istore (i := 4) dd_SF_trainsThatFit_80 (Nat.le_of_ble_eq_true rfl) (fun _ => c1_i rfl) (fr_to (pc' := 82) (env' := [some (sf_rv p0), some (sf_rv x2), some (.int b3.1), some (.int b3.2), some (.int (0 : Int32)), some (.int b7.2)]) (stk' := []) rfl rfl rfl ?_)
                  refine fr_niinc (i := 5) (x := b7.2) (w := (1 : Int32)) dd_SF_trainsThatFit_82 rfl (by decide) (Nat.le_of_ble_eq_true rfl) (fun _ => c1_i rfl) (fun y20 => fr_to (pc' := 85) (env' := [some (sf_rv p0), some (sf_rv x2), some (.int b3.1), some (.int b3.2), some (.int (0 : Int32)), some (.int y20)]) (stk' := []) rfl rfl rfl ?_)
                  refine fp_goto (tgt := 32) dd_SF_trainsThatFit_85 rfl ?_
                  exact fr_ret rfl
        · refine fp_iload (i := 4) (x := e21) dd_SF_trainsThatFit_88 rfl (fr_pc (pc' := 90) rfl ?_)
          refine fr_if_eq (tgt := 99) dd_SF_trainsThatFit_90 rfl (fun _ => ?_) (fun _ => ?_)
          · refine fr_niinc (i := 3) (x := b3.2) (w := (1 : Int32)) dd_SF_trainsThatFit_99 rfl (by decide) (Nat.le_of_ble_eq_true rfl) (fun _ => c1_i rfl) (fun y23 => fr_to (pc' := 102) (env' := [some (sf_rv p0), some (sf_rv x2), some (.int b3.1), some (.int y23), some (.int e21), none]) (stk' := []) rfl rfl rfl ?_)
            refine fp_goto (tgt := 12) dd_SF_trainsThatFit_102 rfl ?_
            refine fr_wk [true, true, true, true, false, false] ?_
            exact fr_ret rfl
          · refine fr_pc (pc' := 93) rfl ?_
            refine fp_iload_n (i := 2) (x := b3.1) dd_SF_trainsThatFit_93 rfl rfl (fr_pc (pc' := 94) rfl ?_)
            refine fp_iconst (v := (1 : Int32)) dd_SF_trainsThatFit_94 (by decide) (fr_pc (pc' := 95) rfl ?_)
            refine fp_iload_n (i := 3) (x := b3.2) dd_SF_trainsThatFit_95 rfl rfl (fr_pc (pc' := 96) rfl ?_)
            refine fp_ishl dd_SF_trainsThatFit_96 (fr_pc (pc' := 97) rfl ?_)
            refine fp_ior dd_SF_trainsThatFit_97 (fr_pc (pc' := 98) rfl ?_)
            refine fr_nistore_n (i := 2) dd_SF_trainsThatFit_98 rfl (Nat.le_of_ble_eq_true rfl) (fun _ => c1_r rfl) (fun y24 => fr_to (pc' := 99) (env' := [some (sf_rv p0), some (sf_rv x2), some (.int y24), some (.int b3.2), some (.int e21), none]) (stk' := []) rfl rfl rfl ?_)
            refine fr_niinc (i := 3) (x := b3.2) (w := (1 : Int32)) dd_SF_trainsThatFit_99 rfl (by decide) (Nat.le_of_ble_eq_true rfl) (fun _ => c1_i rfl) (fun y25 => fr_to (pc' := 102) (env' := [some (sf_rv p0), some (sf_rv x2), some (.int y24), some (.int y25), some (.int e21), none]) (stk' := []) rfl rfl rfl ?_)
            refine fp_goto (tgt := 12) dd_SF_trainsThatFit_102 rfl ?_
            refine fr_wk [true, true, true, true, false, false] ?_
            exact fr_ret rfl
  · refine fp_iload_n (i := 2) (x := e26) dd_SF_trainsThatFit_105 rfl rfl (fr_pc (pc' := 106) rfl ?_)
    exact fr_iret (v := e26) rfl rfl dd_SF_trainsThatFit_106
theorem mt_SF_canBe : sf_Mt ({ cls := "SplitFares", name := "canBe", desc := "()I" } : Jvm.MethodName) prog_1_method_34_code 1 (some .int) 0 := ⟨sw_989, sw_1, ⟨by decide, by decide, by decide +kernel⟩, by decide⟩
theorem dd_SF_canBe_0 : decode prog_1_method_34_code 0 = .ok (.aload_n 0, 1) := by decide +kernel
theorem dd_SF_canBe_1 : decode prog_1_method_34_code 1 = .ok (.invokevirtual 248, 3) := by decide +kernel
theorem dd_SF_canBe_4 : decode prog_1_method_34_code 4 = .ok (.aload_n 0, 1) := by decide +kernel
theorem dd_SF_canBe_5 : decode prog_1_method_34_code 5 = .ok (.invokevirtual 265, 3) := by decide +kernel
theorem dd_SF_canBe_8 : decode prog_1_method_34_code 8 = .ok (.ireturn, 1) := by decide +kernel
def jx_SF_canBe (p0 : Option Nat) : sf_M (Int32) :=
  sf_bnd (sf_rc 0 p0 (jx_SF_fillAnswers p0)) fun _ =>
  sf_bnd (sf_rc 0 p0 (jx_SF_trainsThatFit p0)) fun x2 =>
  sf_ret x2
set_option maxRecDepth 20000 in
set_option maxHeartbeats 4000000 in
theorem ok_SF_canBe (p0 : Option Nat) : sf_Ok ({ cls := "SplitFares", name := "canBe", desc := "()I" } : Jvm.MethodName) prog_1_method_34_code 1 (some .int) 6 [sf_rv p0] (jx_SF_canBe p0) (fun r => some (.int r)) := by
  refine sf_Ok.of (env := [some (sf_rv p0)]) (plainFor_of_name (by decide)) [false] (fun G => ⟨pk_r, trivial⟩) (Nat.le_of_ble_eq_true rfl) rfl (fun X => ?_)
  unfold jx_SF_canBe
  refine fp_aload_n (i := 0) (r := p0) dd_SF_canBe_0 rfl rfl (fr_pc (pc' := 1) rfl ?_)
  refine fr_callV (stk := []) (As := []) cl_0 (ok_SF_fillAnswers p0) mt_SF_fillAnswers rfl rfl sw_963 sw_965 sp_23 (by decide) (Nat.le_of_ble_eq_true rfl) dd_SF_canBe_1 (fun u1 => fr_to (pc' := 4) (env' := [some (sf_rv p0)]) (stk' := []) rfl rfl rfl ?_)
  refine fp_aload_n (i := 0) (r := p0) dd_SF_canBe_4 rfl rfl (fr_pc (pc' := 5) rfl ?_)
  refine fr_callV (stk := []) (As := []) cl_0 (ok_SF_trainsThatFit p0) mt_SF_trainsThatFit rfl rfl sw_990 sw_992 sp_24 (by decide) (Nat.le_of_ble_eq_true rfl) dd_SF_canBe_5 (fun x2 => fr_to (pc' := 8) (env' := [some (sf_rv p0)]) (stk' := [.int x2]) rfl rfl rfl ?_)
  exact fr_iret (v := x2) rfl rfl dd_SF_canBe_8
theorem mt_SF_mostAlike : sf_Mt ({ cls := "SplitFares", name := "mostAlike", desc := "(II)I" } : Jvm.MethodName) prog_1_method_55_code 8 (some .int) 2 := ⟨sw_1005, sw_1, ⟨by decide, by decide, by decide +kernel⟩, by decide⟩
theorem dd_SF_mostAlike_0 : decode prog_1_method_55_code 0 = .ok (.iconst 0, 1) := by decide +kernel
theorem dd_SF_mostAlike_1 : decode prog_1_method_55_code 1 = .ok (.istore_n 3, 1) := by decide +kernel
theorem dd_SF_mostAlike_2 : decode prog_1_method_55_code 2 = .ok (.iconst 0, 1) := by decide +kernel
theorem dd_SF_mostAlike_3 : decode prog_1_method_55_code 3 = .ok (.istore 4, 2) := by decide +kernel
theorem dd_SF_mostAlike_5 : decode prog_1_method_55_code 5 = .ok (.iload 4, 2) := by decide +kernel
theorem dd_SF_mostAlike_7 : decode prog_1_method_55_code 7 = .ok (.bipush 6, 2) := by decide +kernel
theorem dd_SF_mostAlike_9 : decode prog_1_method_55_code 9 = .ok (.if_icmp .ge 87, 3) := by decide +kernel
theorem dd_SF_mostAlike_12 : decode prog_1_method_55_code 12 = .ok (.iconst 0, 1) := by decide +kernel
theorem dd_SF_mostAlike_13 : decode prog_1_method_55_code 13 = .ok (.istore 5, 2) := by decide +kernel
theorem dd_SF_mostAlike_15 : decode prog_1_method_55_code 15 = .ok (.iconst 0, 1) := by decide +kernel
theorem dd_SF_mostAlike_16 : decode prog_1_method_55_code 16 = .ok (.istore 6, 2) := by decide +kernel
theorem dd_SF_mostAlike_18 : decode prog_1_method_55_code 18 = .ok (.iload 6, 2) := by decide +kernel
theorem dd_SF_mostAlike_20 : decode prog_1_method_55_code 20 = .ok (.bipush 6, 2) := by decide +kernel
theorem dd_SF_mostAlike_22 : decode prog_1_method_55_code 22 = .ok (.if_icmp .ge 61, 3) := by decide +kernel
theorem dd_SF_mostAlike_25 : decode prog_1_method_55_code 25 = .ok (.iload_n 1, 1) := by decide +kernel
theorem dd_SF_mostAlike_26 : decode prog_1_method_55_code 26 = .ok (.iload 4, 2) := by decide +kernel
theorem dd_SF_mostAlike_28 : decode prog_1_method_55_code 28 = .ok (.ishr, 1) := by decide +kernel
theorem dd_SF_mostAlike_29 : decode prog_1_method_55_code 29 = .ok (.iconst 1, 1) := by decide +kernel
theorem dd_SF_mostAlike_30 : decode prog_1_method_55_code 30 = .ok (.iand, 1) := by decide +kernel
theorem dd_SF_mostAlike_31 : decode prog_1_method_55_code 31 = .ok (.iconst 1, 1) := by decide +kernel
theorem dd_SF_mostAlike_32 : decode prog_1_method_55_code 32 = .ok (.if_icmp .ne 17, 3) := by decide +kernel
theorem dd_SF_mostAlike_35 : decode prog_1_method_55_code 35 = .ok (.iload_n 1, 1) := by decide +kernel
theorem dd_SF_mostAlike_36 : decode prog_1_method_55_code 36 = .ok (.iload 6, 2) := by decide +kernel
theorem dd_SF_mostAlike_38 : decode prog_1_method_55_code 38 = .ok (.ishr, 1) := by decide +kernel
theorem dd_SF_mostAlike_39 : decode prog_1_method_55_code 39 = .ok (.iconst 1, 1) := by decide +kernel
theorem dd_SF_mostAlike_40 : decode prog_1_method_55_code 40 = .ok (.iand, 1) := by decide +kernel
theorem dd_SF_mostAlike_41 : decode prog_1_method_55_code 41 = .ok (.iconst 1, 1) := by decide +kernel
theorem dd_SF_mostAlike_42 : decode prog_1_method_55_code 42 = .ok (.if_icmp .ne 7, 3) := by decide +kernel
theorem dd_SF_mostAlike_45 : decode prog_1_method_55_code 45 = .ok (.iconst 1, 1) := by decide +kernel
theorem dd_SF_mostAlike_46 : decode prog_1_method_55_code 46 = .ok (.goto 4, 3) := by decide +kernel
theorem dd_SF_mostAlike_49 : decode prog_1_method_55_code 49 = .ok (.iconst 0, 1) := by decide +kernel
theorem dd_SF_mostAlike_50 : decode prog_1_method_55_code 50 = .ok (.istore 7, 2) := by decide +kernel
theorem dd_SF_mostAlike_52 : decode prog_1_method_55_code 52 = .ok (.iload 7, 2) := by decide +kernel
theorem dd_SF_mostAlike_54 : decode prog_1_method_55_code 54 = .ok (.ifCond .eq 23, 3) := by decide +kernel
theorem dd_SF_mostAlike_57 : decode prog_1_method_55_code 57 = .ok (.aload_n 0, 1) := by decide +kernel
theorem dd_SF_mostAlike_58 : decode prog_1_method_55_code 58 = .ok (.iload 4, 2) := by decide +kernel
theorem dd_SF_mostAlike_60 : decode prog_1_method_55_code 60 = .ok (.iload_n 2, 1) := by decide +kernel
theorem dd_SF_mostAlike_61 : decode prog_1_method_55_code 61 = .ok (.invokevirtual 319, 3) := by decide +kernel
theorem dd_SF_mostAlike_64 : decode prog_1_method_55_code 64 = .ok (.aload_n 0, 1) := by decide +kernel
theorem dd_SF_mostAlike_65 : decode prog_1_method_55_code 65 = .ok (.iload 6, 2) := by decide +kernel
theorem dd_SF_mostAlike_67 : decode prog_1_method_55_code 67 = .ok (.iload_n 2, 1) := by decide +kernel
theorem dd_SF_mostAlike_68 : decode prog_1_method_55_code 68 = .ok (.invokevirtual 319, 3) := by decide +kernel
theorem dd_SF_mostAlike_71 : decode prog_1_method_55_code 71 = .ok (.if_icmp .ne 6, 3) := by decide +kernel
theorem dd_SF_mostAlike_74 : decode prog_1_method_55_code 74 = .ok (.iinc 5 1, 3) := by decide +kernel
theorem dd_SF_mostAlike_77 : decode prog_1_method_55_code 77 = .ok (.iinc 6 1, 3) := by decide +kernel
theorem dd_SF_mostAlike_80 : decode prog_1_method_55_code 80 = .ok (.goto (-62), 3) := by decide +kernel
theorem dd_SF_mostAlike_83 : decode prog_1_method_55_code 83 = .ok (.iload_n 3, 1) := by decide +kernel
theorem dd_SF_mostAlike_84 : decode prog_1_method_55_code 84 = .ok (.iload 5, 2) := by decide +kernel
theorem dd_SF_mostAlike_86 : decode prog_1_method_55_code 86 = .ok (.invokestatic 325, 3) := by decide +kernel
theorem dd_SF_mostAlike_89 : decode prog_1_method_55_code 89 = .ok (.istore_n 3, 1) := by decide +kernel
theorem dd_SF_mostAlike_90 : decode prog_1_method_55_code 90 = .ok (.iinc 4 1, 3) := by decide +kernel
theorem dd_SF_mostAlike_93 : decode prog_1_method_55_code 93 = .ok (.goto (-88), 3) := by decide +kernel
theorem dd_SF_mostAlike_96 : decode prog_1_method_55_code 96 = .ok (.iload_n 3, 1) := by decide +kernel
theorem dd_SF_mostAlike_97 : decode prog_1_method_55_code 97 = .ok (.ireturn, 1) := by decide +kernel
def jx_SF_mostAlike (p0 : Option Nat) (p1 : Int32) (p2 : Int32) : sf_M (Int32) :=
  sf_bnd (sf_loop (β := (Int32 × Int32)) (γ := (Int32)) (fun b1 =>
  if (6 : Int32) ≤ b1.2 then (
  sf_ret (.inr b1.1)
  ) else (
  sf_bnd (sf_loop (β := (Int32 × Int32)) (γ := (Int32)) (fun b3 =>
  if (6 : Int32) ≤ b3.2 then (
  sf_ret (.inr b3.1)
  ) else (
  sf_bnd (α := (Int32)) (
  sf_or (α := (Int32)) (β := (Unit)) (
  if ((p1 >>> (b1.2 &&& 31)) &&& (1 : Int32)) = (1 : Int32) then (
  if ((p1 >>> (b3.2 &&& 31)) &&& (1 : Int32)) = (1 : Int32) then (
  sf_ret (.inl (1 : Int32))
  ) else (
  sf_ret (.inr ())
  )
  ) else (
  sf_ret (.inr ())
  )
  ) (fun v7 =>
  sf_ret (0 : Int32)
  )
  ) (fun v8 =>
  if v8 = 0 then (
  sf_bnd (sf_ret (b3.2 + (1 : Int32))) fun y10 =>
  sf_ret (.inl (b3.1, y10))
  ) else (
  sf_bnd (sf_rc 0 p0 (jx_SF_answerOf p0 b1.2 p2)) fun x11 =>
  sf_bnd (sf_rc 0 p0 (jx_SF_answerOf p0 b3.2 p2)) fun x12 =>
  if x11 = x12 then (
  sf_bnd (sf_ret (b3.1 + (1 : Int32))) fun y14 =>
  sf_bnd (sf_ret (b3.2 + (1 : Int32))) fun y15 =>
  sf_ret (.inl (y14, y15))
  ) else (
  sf_bnd (sf_ret (b3.2 + (1 : Int32))) fun y16 =>
  sf_ret (.inl (b3.1, y16))
  )
  )
  )
  )
  ) sf_fuel ((0 : Int32), (0 : Int32))) (fun e17 =>
  sf_bnd (jx_Math_max b1.1 e17) fun x18 =>
  sf_bnd (sf_ret (b1.2 + (1 : Int32))) fun y19 =>
  sf_ret (.inl (x18, y19))
  )
  )
  ) sf_fuel ((0 : Int32), (0 : Int32))) (fun e20 =>
  sf_ret e20
  )
set_option maxRecDepth 20000 in
set_option maxHeartbeats 4000000 in
theorem ok_SF_mostAlike (p0 : Option Nat) (p1 : Int32) (p2 : Int32) : sf_Ok ({ cls := "SplitFares", name := "mostAlike", desc := "(II)I" } : Jvm.MethodName) prog_1_method_55_code 8 (some .int) 1 [sf_rv p0, .int p1, .int p2] (jx_SF_mostAlike p0 p1 p2) (fun r => some (.int r)) := by
  refine sf_Ok.of (env := [some (sf_rv p0), some (.int p1), some (.int p2), none, none, none, none, none]) (plainFor_of_name (by decide)) [false, false, false] (fun G => ⟨pk_r, pk_i, pk_i, trivial⟩) (Nat.le_of_ble_eq_true rfl) rfl (fun X => ?_)
  unfold jx_SF_mostAlike
  refine fp_iconst (v := (0 : Int32)) dd_SF_mostAlike_0 (by decide) (fr_pc (pc' := 1) rfl ?_)
  refine fp_istore_n (i := 3) dd_SF_mostAlike_1 rfl (Nat.le_of_ble_eq_true rfl) (fun _ => c1_i rfl) (fr_to (pc' := 2) (env' := [some (sf_rv p0), some (.int p1), some (.int p2), some (.int (0 : Int32)), none, none, none, none]) (stk' := []) rfl rfl rfl ?_)
  refine fp_iconst (v := (0 : Int32)) dd_SF_mostAlike_2 (by decide) (fr_pc (pc' := 3) rfl ?_)
  refine fp_istore (i := 4) dd_SF_mostAlike_3 (Nat.le_of_ble_eq_true rfl) (fun _ => c1_i rfl) (fr_to (pc' := 5) (env' := [some (sf_rv p0), some (.int p1), some (.int p2), some (.int (0 : Int32)), some (.int (0 : Int32)), none, none, none]) (stk' := []) rfl rfl rfl ?_)
  refine fr_to (pc' := 5) (env' := [some (sf_rv p0), some (.int p1), some (.int p2), some (.int (0 : Int32)), some (.int (0 : Int32)), none, none, none]) (stk' := []) rfl rfl rfl ?_
  refine fr_bnd (l1 := (fun (e20 : (Int32)) => sf_p 96 [some (sf_rv p0), some (.int p1), some (.int p2), some (.int e20), none, none, none, none] [])) (fr_loop (Lb := (fun (b1 : (Int32 × Int32)) => sf_p 5 [some (sf_rv p0), some (.int p1), some (.int p2), some (.int b1.1), some (.int b1.2), none, none, none] [])) (fun b1 => ?_) _ _) (fun e20 => ?_)
  · refine fp_iload (i := 4) (x := b1.2) dd_SF_mostAlike_5 rfl (fr_pc (pc' := 7) rfl ?_)
    refine fp_bipush (v := (6 : Int32)) dd_SF_mostAlike_7 (by decide) (fr_pc (pc' := 9) rfl ?_)
    refine fr_icmp_ge (tgt := 96) dd_SF_mostAlike_9 rfl (fun _ => ?_) (fun _ => ?_)
    · refine fr_wk [true, true, true, true, false, false, false, false] ?_
      exact fr_ret rfl
    · refine fr_pc (pc' := 12) rfl ?_
      refine fp_iconst (v := (0 : Int32)) dd_SF_mostAlike_12 (by decide) (fr_pc (pc' := 13) rfl ?_)
      refine fp_istore (i := 5) dd_SF_mostAlike_13 (Nat.le_of_ble_eq_true rfl) (fun _ => c1_i rfl) (fr_to (pc' := 15) (env' := [some (sf_rv p0), some (.int p1), some (.int p2), some (.int b1.1), some (.int b1.2), some (.int (0 : Int32)), none, none]) (stk' := []) rfl rfl rfl ?_)
      refine fp_iconst (v := (0 : Int32)) dd_SF_mostAlike_15 (by decide) (fr_pc (pc' := 16) rfl ?_)
      refine fp_istore (i := 6) dd_SF_mostAlike_16 (Nat.le_of_ble_eq_true rfl) (fun _ => c1_i rfl) (fr_to (pc' := 18) (env' := [some (sf_rv p0), some (.int p1), some (.int p2), some (.int b1.1), some (.int b1.2), some (.int (0 : Int32)), some (.int (0 : Int32)), none]) (stk' := []) rfl rfl rfl ?_)
      refine fr_to (pc' := 18) (env' := [some (sf_rv p0), some (.int p1), some (.int p2), some (.int b1.1), some (.int b1.2), some (.int (0 : Int32)), some (.int (0 : Int32)), none]) (stk' := []) rfl rfl rfl ?_
      refine fr_bnd (l1 := (fun (e17 : (Int32)) => sf_p 83 [some (sf_rv p0), some (.int p1), some (.int p2), some (.int b1.1), some (.int b1.2), some (.int e17), none, none] [])) (fr_loop (Lb := (fun (b3 : (Int32 × Int32)) => sf_p 18 [some (sf_rv p0), some (.int p1), some (.int p2), some (.int b1.1), some (.int b1.2), some (.int b3.1), some (.int b3.2), none] [])) (fun b3 => ?_) _ _) (fun e17 => ?_)
      · refine fp_iload (i := 6) (x := b3.2) dd_SF_mostAlike_18 rfl (fr_pc (pc' := 20) rfl ?_)
        refine fp_bipush (v := (6 : Int32)) dd_SF_mostAlike_20 (by decide) (fr_pc (pc' := 22) rfl ?_)
        refine fr_icmp_ge (tgt := 83) dd_SF_mostAlike_22 rfl (fun _ => ?_) (fun _ => ?_)
        · refine fr_wk [true, true, true, true, true, true, false, false] ?_
          exact fr_ret rfl
        · refine fr_pc (pc' := 25) rfl ?_
          refine fp_iload_n (i := 1) (x := p1) dd_SF_mostAlike_25 rfl rfl (fr_pc (pc' := 26) rfl ?_)
          refine fp_iload (i := 4) (x := b1.2) dd_SF_mostAlike_26 rfl (fr_pc (pc' := 28) rfl ?_)
          refine fp_ishr dd_SF_mostAlike_28 (fr_pc (pc' := 29) rfl ?_)
          refine fp_iconst (v := (1 : Int32)) dd_SF_mostAlike_29 (by decide) (fr_pc (pc' := 30) rfl ?_)
          refine fp_iand dd_SF_mostAlike_30 (fr_pc (pc' := 31) rfl ?_)
          refine fp_iconst (v := (1 : Int32)) dd_SF_mostAlike_31 (by decide) (fr_pc (pc' := 32) rfl ?_)
          refine fr_bnd (l1 := (fun (v8 : (Int32)) => sf_p 50 [some (sf_rv p0), some (.int p1), some (.int p2), some (.int b1.1), some (.int b1.2), some (.int b3.1), some (.int b3.2), none] [.int v8])) ?_ (fun v8 => ?_)
          · refine fr_or (l1 := (fun (v7 : (Unit)) => sf_p 49 [some (sf_rv p0), some (.int p1), some (.int p2), some (.int b1.1), some (.int b1.2), some (.int b3.1), some (.int b3.2), none] [])) ?_ (fun v7 => ?_)
            · refine fr_icmp_ne (tgt := 49) dd_SF_mostAlike_32 rfl (fun _ => ?_) (fun _ => ?_)
              · refine fr_pc (pc' := 35) rfl ?_
                refine fp_iload_n (i := 1) (x := p1) dd_SF_mostAlike_35 rfl rfl (fr_pc (pc' := 36) rfl ?_)
                refine fp_iload (i := 6) (x := b3.2) dd_SF_mostAlike_36 rfl (fr_pc (pc' := 38) rfl ?_)
                refine fp_ishr dd_SF_mostAlike_38 (fr_pc (pc' := 39) rfl ?_)
                refine fp_iconst (v := (1 : Int32)) dd_SF_mostAlike_39 (by decide) (fr_pc (pc' := 40) rfl ?_)
                refine fp_iand dd_SF_mostAlike_40 (fr_pc (pc' := 41) rfl ?_)
                refine fp_iconst (v := (1 : Int32)) dd_SF_mostAlike_41 (by decide) (fr_pc (pc' := 42) rfl ?_)
                refine fr_icmp_ne (tgt := 49) dd_SF_mostAlike_42 rfl (fun _ => ?_) (fun _ => ?_)
                · refine fr_pc (pc' := 45) rfl ?_
                  refine fp_iconst (v := (1 : Int32)) dd_SF_mostAlike_45 (by decide) (fr_pc (pc' := 46) rfl ?_)
                  refine fp_goto (tgt := 50) dd_SF_mostAlike_46 rfl ?_
                  exact fr_ret rfl
                · exact fr_ret rfl
              · exact fr_ret rfl
            · refine fp_iconst (v := (0 : Int32)) dd_SF_mostAlike_49 (by decide) (fr_pc (pc' := 50) rfl ?_)
              exact fr_ret rfl
          · refine fp_istore (i := 7) dd_SF_mostAlike_50 (Nat.le_of_ble_eq_true rfl) (fun _ => c1_i rfl) (fr_to (pc' := 52) (env' := [some (sf_rv p0), some (.int p1), some (.int p2), some (.int b1.1), some (.int b1.2), some (.int b3.1), some (.int b3.2), some (.int v8)]) (stk' := []) rfl rfl rfl ?_)
            refine fp_iload (i := 7) (x := v8) dd_SF_mostAlike_52 rfl (fr_pc (pc' := 54) rfl ?_)
            refine fr_if_eq (tgt := 77) dd_SF_mostAlike_54 rfl (fun _ => ?_) (fun _ => ?_)
            · refine fr_niinc (i := 6) (x := b3.2) (w := (1 : Int32)) dd_SF_mostAlike_77 rfl (by decide) (Nat.le_of_ble_eq_true rfl) (fun _ => c1_i rfl) (fun y10 => fr_to (pc' := 80) (env' := [some (sf_rv p0), some (.int p1), some (.int p2), some (.int b1.1), some (.int b1.2), some (.int b3.1), some (.int y10), some (.int v8)]) (stk' := []) rfl rfl rfl ?_)
              refine fp_goto (tgt := 18) dd_SF_mostAlike_80 rfl ?_
              refine fr_wk [true, true, true, true, true, true, true, false] ?_
              exact fr_ret rfl
            · refine fr_pc (pc' := 57) rfl ?_
              refine fp_aload_n (i := 0) (r := p0) dd_SF_mostAlike_57 rfl rfl (fr_pc (pc' := 58) rfl ?_)
              refine fp_iload (i := 4) (x := b1.2) dd_SF_mostAlike_58 rfl (fr_pc (pc' := 60) rfl ?_)
              refine fp_iload_n (i := 2) (x := p2) dd_SF_mostAlike_60 rfl rfl (fr_pc (pc' := 61) rfl ?_)
              refine fr_callV (stk := []) (As := [.int b1.2, .int p2]) cl_0 (ok_SF_answerOf p0 b1.2 p2) mt_SF_answerOf rfl rfl sw_994 sw_996 sp_25 (by decide) (Nat.le_of_ble_eq_true rfl) dd_SF_mostAlike_61 (fun x11 => fr_to (pc' := 64) (env' := [some (sf_rv p0), some (.int p1), some (.int p2), some (.int b1.1), some (.int b1.2), some (.int b3.1), some (.int b3.2), some (.int v8)]) (stk' := [.int x11]) rfl rfl rfl ?_)
              refine fp_aload_n (i := 0) (r := p0) dd_SF_mostAlike_64 rfl rfl (fr_pc (pc' := 65) rfl ?_)
              refine fp_iload (i := 6) (x := b3.2) dd_SF_mostAlike_65 rfl (fr_pc (pc' := 67) rfl ?_)
              refine fp_iload_n (i := 2) (x := p2) dd_SF_mostAlike_67 rfl rfl (fr_pc (pc' := 68) rfl ?_)
              refine fr_callV (stk := [.int x11]) (As := [.int b3.2, .int p2]) cl_0 (ok_SF_answerOf p0 b3.2 p2) mt_SF_answerOf rfl rfl sw_994 sw_996 sp_25 (by decide) (Nat.le_of_ble_eq_true rfl) dd_SF_mostAlike_68 (fun x12 => fr_to (pc' := 71) (env' := [some (sf_rv p0), some (.int p1), some (.int p2), some (.int b1.1), some (.int b1.2), some (.int b3.1), some (.int b3.2), some (.int v8)]) (stk' := [.int x12, .int x11]) rfl rfl rfl ?_)
              refine fr_icmp_ne (tgt := 77) dd_SF_mostAlike_71 rfl (fun _ => ?_) (fun _ => ?_)
              · refine fr_pc (pc' := 74) rfl ?_
                refine fr_niinc (i := 5) (x := b3.1) (w := (1 : Int32)) dd_SF_mostAlike_74 rfl (by decide) (Nat.le_of_ble_eq_true rfl) (fun _ => c1_i rfl) (fun y14 => fr_to (pc' := 77) (env' := [some (sf_rv p0), some (.int p1), some (.int p2), some (.int b1.1), some (.int b1.2), some (.int y14), some (.int b3.2), some (.int v8)]) (stk' := []) rfl rfl rfl ?_)
                refine fr_niinc (i := 6) (x := b3.2) (w := (1 : Int32)) dd_SF_mostAlike_77 rfl (by decide) (Nat.le_of_ble_eq_true rfl) (fun _ => c1_i rfl) (fun y15 => fr_to (pc' := 80) (env' := [some (sf_rv p0), some (.int p1), some (.int p2), some (.int b1.1), some (.int b1.2), some (.int y14), some (.int y15), some (.int v8)]) (stk' := []) rfl rfl rfl ?_)
                refine fp_goto (tgt := 18) dd_SF_mostAlike_80 rfl ?_
                refine fr_wk [true, true, true, true, true, true, true, false] ?_
                exact fr_ret rfl
              · refine fr_niinc (i := 6) (x := b3.2) (w := (1 : Int32)) dd_SF_mostAlike_77 rfl (by decide) (Nat.le_of_ble_eq_true rfl) (fun _ => c1_i rfl) (fun y16 => fr_to (pc' := 80) (env' := [some (sf_rv p0), some (.int p1), some (.int p2), some (.int b1.1), some (.int b1.2), some (.int b3.1), some (.int y16), some (.int v8)]) (stk' := []) rfl rfl rfl ?_)
                refine fp_goto (tgt := 18) dd_SF_mostAlike_80 rfl ?_
                refine fr_wk [true, true, true, true, true, true, true, false] ?_
                exact fr_ret rfl
      · refine fp_iload_n (i := 3) (x := b1.1) dd_SF_mostAlike_83 rfl rfl (fr_pc (pc' := 84) rfl ?_)
        refine fp_iload (i := 5) (x := e17) dd_SF_mostAlike_84 rfl (fr_pc (pc' := 86) rfl ?_)
        refine fr_callS (stk := []) (ok_Math_max b1.1 e17) mt_Math_max rfl rfl sw_1006 sw_448 (by decide) (Nat.le_of_ble_eq_true rfl) dd_SF_mostAlike_86 (fun x18 => fr_to (pc' := 89) (env' := [some (sf_rv p0), some (.int p1), some (.int p2), some (.int b1.1), some (.int b1.2), some (.int e17), none, none]) (stk' := [.int x18]) rfl rfl rfl ?_)
        refine fp_istore_n (i := 3) dd_SF_mostAlike_89 rfl (Nat.le_of_ble_eq_true rfl) (fun _ => c1_i rfl) (fr_to (pc' := 90) (env' := [some (sf_rv p0), some (.int p1), some (.int p2), some (.int x18), some (.int b1.2), some (.int e17), none, none]) (stk' := []) rfl rfl rfl ?_)
        refine fr_niinc (i := 4) (x := b1.2) (w := (1 : Int32)) dd_SF_mostAlike_90 rfl (by decide) (Nat.le_of_ble_eq_true rfl) (fun _ => c1_i rfl) (fun y19 => fr_to (pc' := 93) (env' := [some (sf_rv p0), some (.int p1), some (.int p2), some (.int x18), some (.int y19), some (.int e17), none, none]) (stk' := []) rfl rfl rfl ?_)
        refine fp_goto (tgt := 5) dd_SF_mostAlike_93 rfl ?_
        refine fr_wk [true, true, true, true, true, false, false, false] ?_
        exact fr_ret rfl
  · refine fp_iload_n (i := 3) (x := e20) dd_SF_mostAlike_96 rfl rfl (fr_pc (pc' := 97) rfl ?_)
    exact fr_iret (v := e20) rfl rfl dd_SF_mostAlike_97
theorem mt_SF_ask : sf_Mt ({ cls := "SplitFares", name := "ask", desc := "(I)I" } : Jvm.MethodName) prog_1_method_35_code 7 (some .int) 1 := ⟨sw_1001, sw_1, ⟨by decide, by decide, by decide +kernel⟩, by decide⟩
theorem dd_SF_ask_0 : decode prog_1_method_35_code 0 = .ok (.aload_n 0, 1) := by decide +kernel
theorem dd_SF_ask_1 : decode prog_1_method_35_code 1 = .ok (.invokevirtual 248, 3) := by decide +kernel
theorem dd_SF_ask_4 : decode prog_1_method_35_code 4 = .ok (.aload_n 0, 1) := by decide +kernel
theorem dd_SF_ask_5 : decode prog_1_method_35_code 5 = .ok (.invokevirtual 265, 3) := by decide +kernel
theorem dd_SF_ask_8 : decode prog_1_method_35_code 8 = .ok (.istore_n 2, 1) := by decide +kernel
theorem dd_SF_ask_9 : decode prog_1_method_35_code 9 = .ok (.iload_n 2, 1) := by decide +kernel
theorem dd_SF_ask_10 : decode prog_1_method_35_code 10 = .ok (.ifCond .ne 5, 3) := by decide +kernel
theorem dd_SF_ask_13 : decode prog_1_method_35_code 13 = .ok (.iconst (-1), 1) := by decide +kernel
theorem dd_SF_ask_14 : decode prog_1_method_35_code 14 = .ok (.ireturn, 1) := by decide +kernel
theorem dd_SF_ask_15 : decode prog_1_method_35_code 15 = .ok (.iconst (-1), 1) := by decide +kernel
theorem dd_SF_ask_16 : decode prog_1_method_35_code 16 = .ok (.istore_n 3, 1) := by decide +kernel
theorem dd_SF_ask_17 : decode prog_1_method_35_code 17 = .ok (.iconst (-1), 1) := by decide +kernel
theorem dd_SF_ask_18 : decode prog_1_method_35_code 18 = .ok (.istore 4, 2) := by decide +kernel
theorem dd_SF_ask_20 : decode prog_1_method_35_code 20 = .ok (.iconst 0, 1) := by decide +kernel
theorem dd_SF_ask_21 : decode prog_1_method_35_code 21 = .ok (.istore 5, 2) := by decide +kernel
theorem dd_SF_ask_23 : decode prog_1_method_35_code 23 = .ok (.iload 5, 2) := by decide +kernel
theorem dd_SF_ask_25 : decode prog_1_method_35_code 25 = .ok (.bipush 8, 2) := by decide +kernel
theorem dd_SF_ask_27 : decode prog_1_method_35_code 27 = .ok (.if_icmp .ge 37, 3) := by decide +kernel
theorem dd_SF_ask_30 : decode prog_1_method_35_code 30 = .ok (.aload_n 0, 1) := by decide +kernel
theorem dd_SF_ask_31 : decode prog_1_method_35_code 31 = .ok (.iload_n 2, 1) := by decide +kernel
theorem dd_SF_ask_32 : decode prog_1_method_35_code 32 = .ok (.iload 5, 2) := by decide +kernel
theorem dd_SF_ask_34 : decode prog_1_method_35_code 34 = .ok (.invokevirtual 268, 3) := by decide +kernel
theorem dd_SF_ask_37 : decode prog_1_method_35_code 37 = .ok (.istore 6, 2) := by decide +kernel
theorem dd_SF_ask_39 : decode prog_1_method_35_code 39 = .ok (.iload_n 3, 1) := by decide +kernel
theorem dd_SF_ask_40 : decode prog_1_method_35_code 40 = .ok (.iconst (-1), 1) := by decide +kernel
theorem dd_SF_ask_41 : decode prog_1_method_35_code 41 = .ok (.if_icmp .eq 10, 3) := by decide +kernel
theorem dd_SF_ask_44 : decode prog_1_method_35_code 44 = .ok (.iload 6, 2) := by decide +kernel
theorem dd_SF_ask_46 : decode prog_1_method_35_code 46 = .ok (.iload 4, 2) := by decide +kernel
theorem dd_SF_ask_48 : decode prog_1_method_35_code 48 = .ok (.if_icmp .ge 10, 3) := by decide +kernel
theorem dd_SF_ask_51 : decode prog_1_method_35_code 51 = .ok (.iload 5, 2) := by decide +kernel
theorem dd_SF_ask_53 : decode prog_1_method_35_code 53 = .ok (.istore_n 3, 1) := by decide +kernel
theorem dd_SF_ask_54 : decode prog_1_method_35_code 54 = .ok (.iload 6, 2) := by decide +kernel
theorem dd_SF_ask_56 : decode prog_1_method_35_code 56 = .ok (.istore 4, 2) := by decide +kernel
theorem dd_SF_ask_58 : decode prog_1_method_35_code 58 = .ok (.iinc 5 1, 3) := by decide +kernel
theorem dd_SF_ask_61 : decode prog_1_method_35_code 61 = .ok (.goto (-38), 3) := by decide +kernel
theorem dd_SF_ask_64 : decode prog_1_method_35_code 64 = .ok (.iload_n 1, 1) := by decide +kernel
theorem dd_SF_ask_65 : decode prog_1_method_35_code 65 = .ok (.ifCond .ne 5, 3) := by decide +kernel
theorem dd_SF_ask_68 : decode prog_1_method_35_code 68 = .ok (.iload_n 3, 1) := by decide +kernel
theorem dd_SF_ask_69 : decode prog_1_method_35_code 69 = .ok (.ireturn, 1) := by decide +kernel
theorem dd_SF_ask_70 : decode prog_1_method_35_code 70 = .ok (.iload_n 1, 1) := by decide +kernel
theorem dd_SF_ask_71 : decode prog_1_method_35_code 71 = .ok (.iconst 1, 1) := by decide +kernel
theorem dd_SF_ask_72 : decode prog_1_method_35_code 72 = .ok (.if_icmp .ne 8, 3) := by decide +kernel
theorem dd_SF_ask_75 : decode prog_1_method_35_code 75 = .ok (.iload 4, 2) := by decide +kernel
theorem dd_SF_ask_77 : decode prog_1_method_35_code 77 = .ok (.goto 4, 3) := by decide +kernel
theorem dd_SF_ask_80 : decode prog_1_method_35_code 80 = .ok (.iconst (-1), 1) := by decide +kernel
theorem dd_SF_ask_81 : decode prog_1_method_35_code 81 = .ok (.ireturn, 1) := by decide +kernel
def jx_SF_ask (p0 : Option Nat) (p1 : Int32) : sf_M (Int32) :=
  sf_bnd (sf_rc 0 p0 (jx_SF_fillAnswers p0)) fun _ =>
  sf_bnd (sf_rc 0 p0 (jx_SF_trainsThatFit p0)) fun x2 =>
  if x2 = 0 then (
  sf_ret (-1 : Int32)
  ) else (
  sf_bnd (sf_loop (β := (Int32 × Int32 × Int32)) (γ := (Int32 × Int32)) (fun b4 =>
  if (8 : Int32) ≤ b4.2.2 then (
  sf_ret (.inr (b4.1, b4.2.1))
  ) else (
  sf_bnd (sf_rc 0 p0 (jx_SF_mostAlike p0 x2 b4.2.2)) fun x6 =>
  if b4.1 = (-1 : Int32) then (
  sf_bnd (sf_ret (b4.2.2 + (1 : Int32))) fun y8 =>
  sf_ret (.inl (b4.2.2, x6, y8))
  ) else (
  if b4.2.1 ≤ x6 then (
  sf_bnd (sf_ret (b4.2.2 + (1 : Int32))) fun y10 =>
  sf_ret (.inl (b4.1, b4.2.1, y10))
  ) else (
  sf_bnd (sf_ret (b4.2.2 + (1 : Int32))) fun y11 =>
  sf_ret (.inl (b4.2.2, x6, y11))
  )
  )
  )
  ) sf_fuel ((-1 : Int32), (-1 : Int32), (0 : Int32))) (fun e12 =>
  if p1 = 0 then (
  sf_ret e12.1
  ) else (
  if p1 = (1 : Int32) then (
  sf_ret e12.2
  ) else (
  sf_ret (-1 : Int32)
  )
  )
  )
  )
set_option maxRecDepth 20000 in
set_option maxHeartbeats 4000000 in
theorem ok_SF_ask (p0 : Option Nat) (p1 : Int32) : sf_Ok ({ cls := "SplitFares", name := "ask", desc := "(I)I" } : Jvm.MethodName) prog_1_method_35_code 7 (some .int) 6 [sf_rv p0, .int p1] (jx_SF_ask p0 p1) (fun r => some (.int r)) := by
  refine sf_Ok.of (env := [some (sf_rv p0), some (.int p1), none, none, none, none, none]) (plainFor_of_name (by decide)) [false, false] (fun G => ⟨pk_r, pk_i, trivial⟩) (Nat.le_of_ble_eq_true rfl) rfl (fun X => ?_)
  unfold jx_SF_ask
  refine fp_aload_n (i := 0) (r := p0) dd_SF_ask_0 rfl rfl (fr_pc (pc' := 1) rfl ?_)
  refine fr_callV (stk := []) (As := []) cl_0 (ok_SF_fillAnswers p0) mt_SF_fillAnswers rfl rfl sw_963 sw_965 sp_23 (by decide) (Nat.le_of_ble_eq_true rfl) dd_SF_ask_1 (fun u1 => fr_to (pc' := 4) (env' := [some (sf_rv p0), some (.int p1), none, none, none, none, none]) (stk' := []) rfl rfl rfl ?_)
  refine fp_aload_n (i := 0) (r := p0) dd_SF_ask_4 rfl rfl (fr_pc (pc' := 5) rfl ?_)
  refine fr_callV (stk := []) (As := []) cl_0 (ok_SF_trainsThatFit p0) mt_SF_trainsThatFit rfl rfl sw_990 sw_992 sp_24 (by decide) (Nat.le_of_ble_eq_true rfl) dd_SF_ask_5 (fun x2 => fr_to (pc' := 8) (env' := [some (sf_rv p0), some (.int p1), none, none, none, none, none]) (stk' := [.int x2]) rfl rfl rfl ?_)
  refine fp_istore_n (i := 2) dd_SF_ask_8 rfl (Nat.le_of_ble_eq_true rfl) (fun _ => c1_i rfl) (fr_to (pc' := 9) (env' := [some (sf_rv p0), some (.int p1), some (.int x2), none, none, none, none]) (stk' := []) rfl rfl rfl ?_)
  refine fp_iload_n (i := 2) (x := x2) dd_SF_ask_9 rfl rfl (fr_pc (pc' := 10) rfl ?_)
  refine fr_if_ne (tgt := 15) dd_SF_ask_10 rfl (fun _ => ?_) (fun _ => ?_)
  · refine fr_pc (pc' := 13) rfl ?_
    refine fp_iconst (v := (-1 : Int32)) dd_SF_ask_13 (by decide) (fr_pc (pc' := 14) rfl ?_)
    exact fr_iret (v := (-1 : Int32)) rfl rfl dd_SF_ask_14
  · refine fp_iconst (v := (-1 : Int32)) dd_SF_ask_15 (by decide) (fr_pc (pc' := 16) rfl ?_)
    refine fp_istore_n (i := 3) dd_SF_ask_16 rfl (Nat.le_of_ble_eq_true rfl) (fun _ => c1_i rfl) (fr_to (pc' := 17) (env' := [some (sf_rv p0), some (.int p1), some (.int x2), some (.int (-1 : Int32)), none, none, none]) (stk' := []) rfl rfl rfl ?_)
    refine fp_iconst (v := (-1 : Int32)) dd_SF_ask_17 (by decide) (fr_pc (pc' := 18) rfl ?_)
    refine fp_istore (i := 4) dd_SF_ask_18 (Nat.le_of_ble_eq_true rfl) (fun _ => c1_i rfl) (fr_to (pc' := 20) (env' := [some (sf_rv p0), some (.int p1), some (.int x2), some (.int (-1 : Int32)), some (.int (-1 : Int32)), none, none]) (stk' := []) rfl rfl rfl ?_)
    refine fp_iconst (v := (0 : Int32)) dd_SF_ask_20 (by decide) (fr_pc (pc' := 21) rfl ?_)
    refine fp_istore (i := 5) dd_SF_ask_21 (Nat.le_of_ble_eq_true rfl) (fun _ => c1_i rfl) (fr_to (pc' := 23) (env' := [some (sf_rv p0), some (.int p1), some (.int x2), some (.int (-1 : Int32)), some (.int (-1 : Int32)), some (.int (0 : Int32)), none]) (stk' := []) rfl rfl rfl ?_)
    refine fr_to (pc' := 23) (env' := [some (sf_rv p0), some (.int p1), some (.int x2), some (.int (-1 : Int32)), some (.int (-1 : Int32)), some (.int (0 : Int32)), none]) (stk' := []) rfl rfl rfl ?_
    refine fr_bnd (l1 := (fun (e12 : (Int32 × Int32)) => sf_p 64 [some (sf_rv p0), some (.int p1), some (.int x2), some (.int e12.1), some (.int e12.2), none, none] [])) (fr_loop (Lb := (fun (b4 : (Int32 × Int32 × Int32)) => sf_p 23 [some (sf_rv p0), some (.int p1), some (.int x2), some (.int b4.1), some (.int b4.2.1), some (.int b4.2.2), none] [])) (fun b4 => ?_) _ _) (fun e12 => ?_)
    · refine fp_iload (i := 5) (x := b4.2.2) dd_SF_ask_23 rfl (fr_pc (pc' := 25) rfl ?_)
      refine fp_bipush (v := (8 : Int32)) dd_SF_ask_25 (by decide) (fr_pc (pc' := 27) rfl ?_)
      refine fr_icmp_ge (tgt := 64) dd_SF_ask_27 rfl (fun _ => ?_) (fun _ => ?_)
      · refine fr_wk [true, true, true, true, true, false, false] ?_
        exact fr_ret rfl
      · refine fr_pc (pc' := 30) rfl ?_
        refine fp_aload_n (i := 0) (r := p0) dd_SF_ask_30 rfl rfl (fr_pc (pc' := 31) rfl ?_)
        refine fp_iload_n (i := 2) (x := x2) dd_SF_ask_31 rfl rfl (fr_pc (pc' := 32) rfl ?_)
        refine fp_iload (i := 5) (x := b4.2.2) dd_SF_ask_32 rfl (fr_pc (pc' := 34) rfl ?_)
        refine fr_callV (stk := []) (As := [.int x2, .int b4.2.2]) cl_0 (ok_SF_mostAlike p0 x2 b4.2.2) mt_SF_mostAlike rfl rfl sw_1002 sw_1004 sp_26 (by decide) (Nat.le_of_ble_eq_true rfl) dd_SF_ask_34 (fun x6 => fr_to (pc' := 37) (env' := [some (sf_rv p0), some (.int p1), some (.int x2), some (.int b4.1), some (.int b4.2.1), some (.int b4.2.2), none]) (stk' := [.int x6]) rfl rfl rfl ?_)
        refine fp_istore (i := 6) dd_SF_ask_37 (Nat.le_of_ble_eq_true rfl) (fun _ => c1_i rfl) (fr_to (pc' := 39) (env' := [some (sf_rv p0), some (.int p1), some (.int x2), some (.int b4.1), some (.int b4.2.1), some (.int b4.2.2), some (.int x6)]) (stk' := []) rfl rfl rfl ?_)
        refine fp_iload_n (i := 3) (x := b4.1) dd_SF_ask_39 rfl rfl (fr_pc (pc' := 40) rfl ?_)
        refine fp_iconst (v := (-1 : Int32)) dd_SF_ask_40 (by decide) (fr_pc (pc' := 41) rfl ?_)
        refine fr_icmp_eq (tgt := 51) dd_SF_ask_41 rfl (fun _ => ?_) (fun _ => ?_)
        · refine fp_iload (i := 5) (x := b4.2.2) dd_SF_ask_51 rfl (fr_pc (pc' := 53) rfl ?_)
          refine fp_istore_n (i := 3) dd_SF_ask_53 rfl (Nat.le_of_ble_eq_true rfl) (fun _ => c1_i rfl) (fr_to (pc' := 54) (env' := [some (sf_rv p0), some (.int p1), some (.int x2), some (.int b4.2.2), some (.int b4.2.1), some (.int b4.2.2), some (.int x6)]) (stk' := []) rfl rfl rfl ?_)
          refine fp_iload (i := 6) (x := x6) dd_SF_ask_54 rfl (fr_pc (pc' := 56) rfl ?_)
          refine fp_istore (i := 4) dd_SF_ask_56 (Nat.le_of_ble_eq_true rfl) (fun _ => c1_i rfl) (fr_to (pc' := 58) (env' := [some (sf_rv p0), some (.int p1), some (.int x2), some (.int b4.2.2), some (.int x6), some (.int b4.2.2), some (.int x6)]) (stk' := []) rfl rfl rfl ?_)
          refine fr_niinc (i := 5) (x := b4.2.2) (w := (1 : Int32)) dd_SF_ask_58 rfl (by decide) (Nat.le_of_ble_eq_true rfl) (fun _ => c1_i rfl) (fun y8 => fr_to (pc' := 61) (env' := [some (sf_rv p0), some (.int p1), some (.int x2), some (.int b4.2.2), some (.int x6), some (.int y8), some (.int x6)]) (stk' := []) rfl rfl rfl ?_)
          refine fp_goto (tgt := 23) dd_SF_ask_61 rfl ?_
          refine fr_wk [true, true, true, true, true, true, false] ?_
          exact fr_ret rfl
        · refine fr_pc (pc' := 44) rfl ?_
          refine fp_iload (i := 6) (x := x6) dd_SF_ask_44 rfl (fr_pc (pc' := 46) rfl ?_)
          refine fp_iload (i := 4) (x := b4.2.1) dd_SF_ask_46 rfl (fr_pc (pc' := 48) rfl ?_)
          refine fr_icmp_ge (tgt := 58) dd_SF_ask_48 rfl (fun _ => ?_) (fun _ => ?_)
          · refine fr_niinc (i := 5) (x := b4.2.2) (w := (1 : Int32)) dd_SF_ask_58 rfl (by decide) (Nat.le_of_ble_eq_true rfl) (fun _ => c1_i rfl) (fun y10 => fr_to (pc' := 61) (env' := [some (sf_rv p0), some (.int p1), some (.int x2), some (.int b4.1), some (.int b4.2.1), some (.int y10), some (.int x6)]) (stk' := []) rfl rfl rfl ?_)
            refine fp_goto (tgt := 23) dd_SF_ask_61 rfl ?_
            refine fr_wk [true, true, true, true, true, true, false] ?_
            exact fr_ret rfl
          · refine fr_pc (pc' := 51) rfl ?_
            refine fp_iload (i := 5) (x := b4.2.2) dd_SF_ask_51 rfl (fr_pc (pc' := 53) rfl ?_)
            refine fp_istore_n (i := 3) dd_SF_ask_53 rfl (Nat.le_of_ble_eq_true rfl) (fun _ => c1_i rfl) (fr_to (pc' := 54) (env' := [some (sf_rv p0), some (.int p1), some (.int x2), some (.int b4.2.2), some (.int b4.2.1), some (.int b4.2.2), some (.int x6)]) (stk' := []) rfl rfl rfl ?_)
            refine fp_iload (i := 6) (x := x6) dd_SF_ask_54 rfl (fr_pc (pc' := 56) rfl ?_)
            refine fp_istore (i := 4) dd_SF_ask_56 (Nat.le_of_ble_eq_true rfl) (fun _ => c1_i rfl) (fr_to (pc' := 58) (env' := [some (sf_rv p0), some (.int p1), some (.int x2), some (.int b4.2.2), some (.int x6), some (.int b4.2.2), some (.int x6)]) (stk' := []) rfl rfl rfl ?_)
            refine fr_niinc (i := 5) (x := b4.2.2) (w := (1 : Int32)) dd_SF_ask_58 rfl (by decide) (Nat.le_of_ble_eq_true rfl) (fun _ => c1_i rfl) (fun y11 => fr_to (pc' := 61) (env' := [some (sf_rv p0), some (.int p1), some (.int x2), some (.int b4.2.2), some (.int x6), some (.int y11), some (.int x6)]) (stk' := []) rfl rfl rfl ?_)
            refine fp_goto (tgt := 23) dd_SF_ask_61 rfl ?_
            refine fr_wk [true, true, true, true, true, true, false] ?_
            exact fr_ret rfl
    · refine fp_iload_n (i := 1) (x := p1) dd_SF_ask_64 rfl rfl (fr_pc (pc' := 65) rfl ?_)
      refine fr_if_ne (tgt := 70) dd_SF_ask_65 rfl (fun _ => ?_) (fun _ => ?_)
      · refine fr_pc (pc' := 68) rfl ?_
        refine fp_iload_n (i := 3) (x := e12.1) dd_SF_ask_68 rfl rfl (fr_pc (pc' := 69) rfl ?_)
        exact fr_iret (v := e12.1) rfl rfl dd_SF_ask_69
      · refine fp_iload_n (i := 1) (x := p1) dd_SF_ask_70 rfl rfl (fr_pc (pc' := 71) rfl ?_)
        refine fp_iconst (v := (1 : Int32)) dd_SF_ask_71 (by decide) (fr_pc (pc' := 72) rfl ?_)
        refine fr_icmp_ne (tgt := 80) dd_SF_ask_72 rfl (fun _ => ?_) (fun _ => ?_)
        · refine fr_pc (pc' := 75) rfl ?_
          refine fp_iload (i := 4) (x := e12.2) dd_SF_ask_75 rfl (fr_pc (pc' := 77) rfl ?_)
          refine fp_goto (tgt := 81) dd_SF_ask_77 rfl ?_
          exact fr_iret (v := e12.2) rfl rfl dd_SF_ask_81
        · refine fp_iconst (v := (-1 : Int32)) dd_SF_ask_80 (by decide) (fr_pc (pc' := 81) rfl ?_)
          exact fr_iret (v := (-1 : Int32)) rfl rfl dd_SF_ask_81
theorem mt_SF_few : sf_Mt ({ cls := "SplitFares", name := "few", desc := "(II)J" } : Jvm.MethodName) prog_1_method_36_code 9 (some .long) 2 := ⟨sw_1010, sw_1, ⟨by decide, by decide, by decide +kernel⟩, by decide⟩
theorem dd_SF_few_0 : decode prog_1_method_36_code 0 = .ok (.iload_n 1, 1) := by decide +kernel
theorem dd_SF_few_1 : decode prog_1_method_36_code 1 = .ok (.iconst 1, 1) := by decide +kernel
theorem dd_SF_few_2 : decode prog_1_method_36_code 2 = .ok (.if_icmp .lt 19, 3) := by decide +kernel
theorem dd_SF_few_5 : decode prog_1_method_36_code 5 = .ok (.iload_n 1, 1) := by decide +kernel
theorem dd_SF_few_6 : decode prog_1_method_36_code 6 = .ok (.bipush 20, 2) := by decide +kernel
theorem dd_SF_few_8 : decode prog_1_method_36_code 8 = .ok (.if_icmp .gt 13, 3) := by decide +kernel
theorem dd_SF_few_11 : decode prog_1_method_36_code 11 = .ok (.iload_n 2, 1) := by decide +kernel
theorem dd_SF_few_12 : decode prog_1_method_36_code 12 = .ok (.ifCond .lt 9, 3) := by decide +kernel
theorem dd_SF_few_15 : decode prog_1_method_36_code 15 = .ok (.iload_n 2, 1) := by decide +kernel
theorem dd_SF_few_16 : decode prog_1_method_36_code 16 = .ok (.bipush 99, 2) := by decide +kernel
theorem dd_SF_few_18 : decode prog_1_method_36_code 18 = .ok (.if_icmp .le 7, 3) := by decide +kernel
theorem dd_SF_few_25 : decode prog_1_method_36_code 25 = .ok (.aload_n 0, 1) := by decide +kernel
theorem dd_SF_few_26 : decode prog_1_method_36_code 26 = .ok (.getfield 12, 3) := by decide +kernel
theorem dd_SF_few_29 : decode prog_1_method_36_code 29 = .ok (.getfield 67, 3) := by decide +kernel
theorem dd_SF_few_32 : decode prog_1_method_36_code 32 = .ok (.iconst 1, 1) := by decide +kernel
theorem dd_SF_few_33 : decode prog_1_method_36_code 33 = .ok (.invokevirtual 122, 3) := by decide +kernel
theorem dd_SF_few_36 : decode prog_1_method_36_code 36 = .ok (.i2l, 1) := by decide +kernel
theorem dd_SF_few_37 : decode prog_1_method_36_code 37 = .ok (.lstore_n 3, 1) := by decide +kernel
theorem dd_SF_few_38 : decode prog_1_method_36_code 38 = .ok (.aload_n 0, 1) := by decide +kernel
theorem dd_SF_few_39 : decode prog_1_method_36_code 39 = .ok (.getfield 46, 3) := by decide +kernel
theorem dd_SF_few_42 : decode prog_1_method_36_code 42 = .ok (.lconst 0, 1) := by decide +kernel
theorem dd_SF_few_43 : decode prog_1_method_36_code 43 = .ok (.invokestatic 273, 3) := by decide +kernel
theorem dd_SF_few_46 : decode prog_1_method_36_code 46 = .ok (.aload_n 0, 1) := by decide +kernel
theorem dd_SF_few_47 : decode prog_1_method_36_code 47 = .ok (.getfield 46, 3) := by decide +kernel
theorem dd_SF_few_50 : decode prog_1_method_36_code 50 = .ok (.iconst 0, 1) := by decide +kernel
theorem dd_SF_few_51 : decode prog_1_method_36_code 51 = .ok (.ldc2_w 279, 3) := by decide +kernel
theorem dd_SF_few_54 : decode prog_1_method_36_code 54 = .ok (.lastore, 1) := by decide +kernel
theorem dd_SF_few_55 : decode prog_1_method_36_code 55 = .ok (.iconst 0, 1) := by decide +kernel
theorem dd_SF_few_56 : decode prog_1_method_36_code 56 = .ok (.istore 5, 2) := by decide +kernel
theorem dd_SF_few_58 : decode prog_1_method_36_code 58 = .ok (.iload 5, 2) := by decide +kernel
theorem dd_SF_few_60 : decode prog_1_method_36_code 60 = .ok (.iload_n 2, 1) := by decide +kernel
theorem dd_SF_few_61 : decode prog_1_method_36_code 61 = .ok (.if_icmp .ge 78, 3) := by decide +kernel
theorem dd_SF_few_64 : decode prog_1_method_36_code 64 = .ok (.iload_n 1, 1) := by decide +kernel
theorem dd_SF_few_65 : decode prog_1_method_36_code 65 = .ok (.iconst 1, 1) := by decide +kernel
theorem dd_SF_few_66 : decode prog_1_method_36_code 66 = .ok (.isub, 1) := by decide +kernel
theorem dd_SF_few_67 : decode prog_1_method_36_code 67 = .ok (.istore 6, 2) := by decide +kernel
theorem dd_SF_few_69 : decode prog_1_method_36_code 69 = .ok (.iload 6, 2) := by decide +kernel
theorem dd_SF_few_71 : decode prog_1_method_36_code 71 = .ok (.ifCond .lt 62, 3) := by decide +kernel
theorem dd_SF_few_74 : decode prog_1_method_36_code 74 = .ok (.iload 6, 2) := by decide +kernel
theorem dd_SF_few_76 : decode prog_1_method_36_code 76 = .ok (.ifCond .le 21, 3) := by decide +kernel
theorem dd_SF_few_79 : decode prog_1_method_36_code 79 = .ok (.aload_n 0, 1) := by decide +kernel
theorem dd_SF_few_80 : decode prog_1_method_36_code 80 = .ok (.getfield 46, 3) := by decide +kernel
theorem dd_SF_few_83 : decode prog_1_method_36_code 83 = .ok (.iload 6, 2) := by decide +kernel
theorem dd_SF_few_85 : decode prog_1_method_36_code 85 = .ok (.iconst 1, 1) := by decide +kernel
theorem dd_SF_few_86 : decode prog_1_method_36_code 86 = .ok (.isub, 1) := by decide +kernel
theorem dd_SF_few_87 : decode prog_1_method_36_code 87 = .ok (.laload, 1) := by decide +kernel
theorem dd_SF_few_88 : decode prog_1_method_36_code 88 = .ok (.lload_n 3, 1) := by decide +kernel
theorem dd_SF_few_89 : decode prog_1_method_36_code 89 = .ok (.lmul, 1) := by decide +kernel
theorem dd_SF_few_90 : decode prog_1_method_36_code 90 = .ok (.ldc2_w 281, 3) := by decide +kernel
theorem dd_SF_few_93 : decode prog_1_method_36_code 93 = .ok (.ldiv, 1) := by decide +kernel
theorem dd_SF_few_94 : decode prog_1_method_36_code 94 = .ok (.goto 4, 3) := by decide +kernel
theorem dd_SF_few_97 : decode prog_1_method_36_code 97 = .ok (.lconst 0, 1) := by decide +kernel
theorem dd_SF_few_98 : decode prog_1_method_36_code 98 = .ok (.lstore 7, 2) := by decide +kernel
theorem dd_SF_few_100 : decode prog_1_method_36_code 100 = .ok (.aload_n 0, 1) := by decide +kernel
theorem dd_SF_few_101 : decode prog_1_method_36_code 101 = .ok (.getfield 46, 3) := by decide +kernel
theorem dd_SF_few_104 : decode prog_1_method_36_code 104 = .ok (.iload 6, 2) := by decide +kernel
theorem dd_SF_few_106 : decode prog_1_method_36_code 106 = .ok (.aload_n 0, 1) := by decide +kernel
theorem dd_SF_few_107 : decode prog_1_method_36_code 107 = .ok (.getfield 46, 3) := by decide +kernel
theorem dd_SF_few_110 : decode prog_1_method_36_code 110 = .ok (.iload 6, 2) := by decide +kernel
theorem dd_SF_few_112 : decode prog_1_method_36_code 112 = .ok (.laload, 1) := by decide +kernel
theorem dd_SF_few_113 : decode prog_1_method_36_code 113 = .ok (.ldc2_w 281, 3) := by decide +kernel
theorem dd_SF_few_116 : decode prog_1_method_36_code 116 = .ok (.lload_n 3, 1) := by decide +kernel
theorem dd_SF_few_117 : decode prog_1_method_36_code 117 = .ok (.lsub, 1) := by decide +kernel
theorem dd_SF_few_118 : decode prog_1_method_36_code 118 = .ok (.lmul, 1) := by decide +kernel
theorem dd_SF_few_119 : decode prog_1_method_36_code 119 = .ok (.ldc2_w 281, 3) := by decide +kernel
theorem dd_SF_few_122 : decode prog_1_method_36_code 122 = .ok (.ldiv, 1) := by decide +kernel
theorem dd_SF_few_123 : decode prog_1_method_36_code 123 = .ok (.lload 7, 2) := by decide +kernel
theorem dd_SF_few_125 : decode prog_1_method_36_code 125 = .ok (.ladd, 1) := by decide +kernel
theorem dd_SF_few_126 : decode prog_1_method_36_code 126 = .ok (.lastore, 1) := by decide +kernel
theorem dd_SF_few_127 : decode prog_1_method_36_code 127 = .ok (.iinc 6 (-1), 3) := by decide +kernel
theorem dd_SF_few_130 : decode prog_1_method_36_code 130 = .ok (.goto (-61), 3) := by decide +kernel
theorem dd_SF_few_133 : decode prog_1_method_36_code 133 = .ok (.iinc 5 1, 3) := by decide +kernel
theorem dd_SF_few_136 : decode prog_1_method_36_code 136 = .ok (.goto (-78), 3) := by decide +kernel
theorem dd_SF_few_139 : decode prog_1_method_36_code 139 = .ok (.lconst 0, 1) := by decide +kernel
theorem dd_SF_few_140 : decode prog_1_method_36_code 140 = .ok (.lstore 5, 2) := by decide +kernel
theorem dd_SF_few_142 : decode prog_1_method_36_code 142 = .ok (.iconst 0, 1) := by decide +kernel
theorem dd_SF_few_143 : decode prog_1_method_36_code 143 = .ok (.istore 7, 2) := by decide +kernel
theorem dd_SF_few_145 : decode prog_1_method_36_code 145 = .ok (.iload 7, 2) := by decide +kernel
theorem dd_SF_few_147 : decode prog_1_method_36_code 147 = .ok (.iload_n 1, 1) := by decide +kernel
theorem dd_SF_few_148 : decode prog_1_method_36_code 148 = .ok (.if_icmp .ge 21, 3) := by decide +kernel
theorem dd_SF_few_151 : decode prog_1_method_36_code 151 = .ok (.lload 5, 2) := by decide +kernel
theorem dd_SF_few_153 : decode prog_1_method_36_code 153 = .ok (.aload_n 0, 1) := by decide +kernel
theorem dd_SF_few_154 : decode prog_1_method_36_code 154 = .ok (.getfield 46, 3) := by decide +kernel
theorem dd_SF_few_157 : decode prog_1_method_36_code 157 = .ok (.iload 7, 2) := by decide +kernel
theorem dd_SF_few_159 : decode prog_1_method_36_code 159 = .ok (.laload, 1) := by decide +kernel
theorem dd_SF_few_160 : decode prog_1_method_36_code 160 = .ok (.ladd, 1) := by decide +kernel
theorem dd_SF_few_161 : decode prog_1_method_36_code 161 = .ok (.lstore 5, 2) := by decide +kernel
theorem dd_SF_few_163 : decode prog_1_method_36_code 163 = .ok (.iinc 7 1, 3) := by decide +kernel
theorem dd_SF_few_166 : decode prog_1_method_36_code 166 = .ok (.goto (-21), 3) := by decide +kernel
theorem dd_SF_few_169 : decode prog_1_method_36_code 169 = .ok (.lload 5, 2) := by decide +kernel
theorem dd_SF_few_171 : decode prog_1_method_36_code 171 = .ok (.lreturn, 1) := by decide +kernel
theorem dd_SF_few_21 : decode prog_1_method_36_code 21 = .ok (.ldc2_w 271, 3) := by decide +kernel
theorem dd_SF_few_24 : decode prog_1_method_36_code 24 = .ok (.lreturn, 1) := by decide +kernel
def jx_SF_few (p0 : Option Nat) (p1 : Int32) (p2 : Int32) : sf_M (Int64) :=
  if p1 < (1 : Int32) then (
  sf_ret (-1 : Int64)
  ) else (
  if (20 : Int32) < p1 then (
  sf_ret (-1 : Int64)
  ) else (
  if p2 < 0 then (
  sf_ret (-1 : Int64)
  ) else (
  if p2 ≤ (99 : Int32) then (
  sf_bnd (sf_gR 0 0 p0) fun x5 =>
  sf_bnd (sf_gR 1 0 x5) fun x6 =>
  sf_bnd (sf_rc 4 x6 (jx_Office_term x6 (1 : Int32))) fun x7 =>
  sf_bnd (sf_gR 0 7 p0) fun x8 =>
  sf_bnd (jx_Arrays_fillJ x8 (0 : Int64)) fun _ =>
  sf_bnd (sf_gR 0 7 p0) fun x10 =>
  sf_bnd (sf_sL x10 (0 : Int32) (1000000000000 : Int64)) fun _ =>
  sf_bnd (sf_loop (β := (Int32)) (γ := (Unit)) (fun b11 =>
  if p2 ≤ b11 then (
  sf_ret (.inr ())
  ) else (
  sf_bnd (sf_ret ((p1 - (1 : Int32)))) fun y13 =>
  sf_bnd (sf_loop (β := (Int32)) (γ := (Unit)) (fun b14 =>
  if b14 < 0 then (
  sf_ret (.inr ())
  ) else (
  sf_bnd (α := (Int64)) (
  if b14 ≤ 0 then (
  sf_ret (0 : Int64)
  ) else (
  sf_bnd (sf_gR 0 7 p0) fun x17 =>
  sf_bnd (sf_aL x17 (b14 - (1 : Int32))) fun x18 =>
  sf_ret ((x18 * x7.toInt64) / (10 : Int64))
  )
  ) (fun v19 =>
  sf_bnd (sf_gR 0 7 p0) fun x20 =>
  sf_bnd (sf_gR 0 7 p0) fun x21 =>
  sf_bnd (sf_aL x21 b14) fun x22 =>
  sf_bnd (sf_sL x20 b14 (((x22 * ((10 : Int64) - x7.toInt64)) / (10 : Int64)) + v19)) fun _ =>
  sf_bnd (sf_ret (b14 + (-1 : Int32))) fun y23 =>
  sf_ret (.inl y23)
  )
  )
  ) sf_fuel y13) (fun e24 =>
  sf_bnd (sf_ret (b11 + (1 : Int32))) fun y25 =>
  sf_ret (.inl y25)
  )
  )
  ) sf_fuel (0 : Int32)) (fun e26 =>
  sf_bnd (sf_loop (β := (Int64 × Int32)) (γ := (Int64)) (fun b27 =>
  if p1 ≤ b27.2 then (
  sf_ret (.inr b27.1)
  ) else (
  sf_bnd (sf_gR 0 7 p0) fun x29 =>
  sf_bnd (sf_aL x29 b27.2) fun x30 =>
  sf_bnd (sf_ret ((b27.1 + x30))) fun y31 =>
  sf_bnd (sf_ret (b27.2 + (1 : Int32))) fun y32 =>
  sf_ret (.inl (y31, y32))
  )
  ) sf_fuel ((0 : Int64), (0 : Int32))) (fun e33 =>
  sf_ret e33
  )
  )
  ) else (
  sf_ret (-1 : Int64)
  )
  )
  )
  )
set_option maxRecDepth 20000 in
set_option maxHeartbeats 4000000 in
theorem ok_SF_few (p0 : Option Nat) (p1 : Int32) (p2 : Int32) : sf_Ok ({ cls := "SplitFares", name := "few", desc := "(II)J" } : Jvm.MethodName) prog_1_method_36_code 9 (some .long) 1 [sf_rv p0, .int p1, .int p2] (jx_SF_few p0 p1 p2) (fun r => some (.long r)) := by
  refine sf_Ok.of (env := [some (sf_rv p0), some (.int p1), some (.int p2), none, none, none, none, none, none]) (plainFor_of_name (by decide)) [false, false, false] (fun G => ⟨pk_r, pk_i, pk_i, trivial⟩) (Nat.le_of_ble_eq_true rfl) rfl (fun X => ?_)
  unfold jx_SF_few
  refine fp_iload_n (i := 1) (x := p1) dd_SF_few_0 rfl rfl (fr_pc (pc' := 1) rfl ?_)
  refine fp_iconst (v := (1 : Int32)) dd_SF_few_1 (by decide) (fr_pc (pc' := 2) rfl ?_)
  refine fr_icmp_lt (tgt := 21) dd_SF_few_2 rfl (fun _ => ?_) (fun _ => ?_)
  · refine fp_ldc2 (v := (-1 : Int64)) dd_SF_few_21 sw_1011 (fr_pc (pc' := 24) rfl ?_)
    exact fr_lret (v := (-1 : Int64)) rfl rfl dd_SF_few_24
  · refine fr_pc (pc' := 5) rfl ?_
    refine fp_iload_n (i := 1) (x := p1) dd_SF_few_5 rfl rfl (fr_pc (pc' := 6) rfl ?_)
    refine fp_bipush (v := (20 : Int32)) dd_SF_few_6 (by decide) (fr_pc (pc' := 8) rfl ?_)
    refine fr_icmp_gt (tgt := 21) dd_SF_few_8 rfl (fun _ => ?_) (fun _ => ?_)
    · refine fp_ldc2 (v := (-1 : Int64)) dd_SF_few_21 sw_1011 (fr_pc (pc' := 24) rfl ?_)
      exact fr_lret (v := (-1 : Int64)) rfl rfl dd_SF_few_24
    · refine fr_pc (pc' := 11) rfl ?_
      refine fp_iload_n (i := 2) (x := p2) dd_SF_few_11 rfl rfl (fr_pc (pc' := 12) rfl ?_)
      refine fr_if_lt (tgt := 21) dd_SF_few_12 rfl (fun _ => ?_) (fun _ => ?_)
      · refine fp_ldc2 (v := (-1 : Int64)) dd_SF_few_21 sw_1011 (fr_pc (pc' := 24) rfl ?_)
        exact fr_lret (v := (-1 : Int64)) rfl rfl dd_SF_few_24
      · refine fr_pc (pc' := 15) rfl ?_
        refine fp_iload_n (i := 2) (x := p2) dd_SF_few_15 rfl rfl (fr_pc (pc' := 16) rfl ?_)
        refine fp_bipush (v := (99 : Int32)) dd_SF_few_16 (by decide) (fr_pc (pc' := 18) rfl ?_)
        refine fr_icmp_le (tgt := 25) dd_SF_few_18 rfl (fun _ => ?_) (fun _ => ?_)
        · refine fp_aload_n (i := 0) (r := p0) dd_SF_few_25 rfl rfl (fr_pc (pc' := 26) rfl ?_)
          refine fr_gR cl_0 0 (by decide) rfl sw_315 dd_SF_few_26 (fun x5 => fr_pc (pc' := 29) rfl ?_)
          refine fr_gR cl_1 0 (by decide) rfl sw_192 dd_SF_few_29 (fun x6 => fr_pc (pc' := 32) rfl ?_)
          refine fp_iconst (v := (1 : Int32)) dd_SF_few_32 (by decide) (fr_pc (pc' := 33) rfl ?_)
          refine fr_callV (stk := []) (As := [.int (1 : Int32)]) cl_4 (ok_Office_term x6 (1 : Int32)) mt_Office_term rfl rfl sw_482 sw_483 sw_484 (by decide) (Nat.le_of_ble_eq_true rfl) dd_SF_few_33 (fun x7 => fr_to (pc' := 36) (env' := [some (sf_rv p0), some (.int p1), some (.int p2), none, none, none, none, none, none]) (stk' := [.int x7]) rfl rfl rfl ?_)
          refine fp_i2l dd_SF_few_36 (fr_pc (pc' := 37) rfl ?_)
          refine fp_lstore_n (i := 3) dd_SF_few_37 rfl (Nat.le_of_ble_eq_true rfl) (fun _ => c1_i rfl) (fr_to (pc' := 38) (env' := [some (sf_rv p0), some (.int p1), some (.int p2), some (.long x7.toInt64), none, none, none, none, none]) (stk' := []) rfl rfl rfl ?_)
          refine fp_aload_n (i := 0) (r := p0) dd_SF_few_38 rfl rfl (fr_pc (pc' := 39) rfl ?_)
          refine fr_gR cl_0 7 (by decide) rfl sw_322 dd_SF_few_39 (fun x8 => fr_pc (pc' := 42) rfl ?_)
          refine fp_lconst (v := (0 : Int64)) dd_SF_few_42 (by decide) (fr_pc (pc' := 43) rfl ?_)
          refine fr_callS (stk := []) (ok_Arrays_fillJ x8 (0 : Int64)) mt_Arrays_fillJ rfl rfl sw_1012 sw_1013 (by decide) (Nat.le_of_ble_eq_true rfl) dd_SF_few_43 (fun u9 => fr_to (pc' := 46) (env' := [some (sf_rv p0), some (.int p1), some (.int p2), some (.long x7.toInt64), none, none, none, none, none]) (stk' := []) rfl rfl rfl ?_)
          refine fp_aload_n (i := 0) (r := p0) dd_SF_few_46 rfl rfl (fr_pc (pc' := 47) rfl ?_)
          refine fr_gR cl_0 7 (by decide) rfl sw_322 dd_SF_few_47 (fun x10 => fr_pc (pc' := 50) rfl ?_)
          refine fp_iconst (v := (0 : Int32)) dd_SF_few_50 (by decide) (fr_pc (pc' := 51) rfl ?_)
          refine fp_ldc2 (v := (1000000000000 : Int64)) dd_SF_few_51 sw_1015 (fr_pc (pc' := 54) rfl ?_)
          refine fr_sL dd_SF_few_54 (fr_pc (pc' := 55) rfl ?_)
          refine fp_iconst (v := (0 : Int32)) dd_SF_few_55 (by decide) (fr_pc (pc' := 56) rfl ?_)
          refine fp_istore (i := 5) dd_SF_few_56 (Nat.le_of_ble_eq_true rfl) (fun _ => c1_n rfl) (fr_to (pc' := 58) (env' := [some (sf_rv p0), some (.int p1), some (.int p2), some (.long x7.toInt64), none, some (.int (0 : Int32)), none, none, none]) (stk' := []) rfl rfl rfl ?_)
          refine fr_to (pc' := 58) (env' := [some (sf_rv p0), some (.int p1), some (.int p2), some (.long x7.toInt64), none, some (.int (0 : Int32)), none, none, none]) (stk' := []) rfl rfl rfl ?_
          refine fr_bnd (l1 := (fun (e26 : (Unit)) => sf_p 139 [some (sf_rv p0), some (.int p1), some (.int p2), some (.long x7.toInt64), none, none, none, none, none] [])) (fr_loop (Lb := (fun (b11 : (Int32)) => sf_p 58 [some (sf_rv p0), some (.int p1), some (.int p2), some (.long x7.toInt64), none, some (.int b11), none, none, none] [])) (fun b11 => ?_) _ _) (fun e26 => ?_)
          · refine fp_iload (i := 5) (x := b11) dd_SF_few_58 rfl (fr_pc (pc' := 60) rfl ?_)
            refine fp_iload_n (i := 2) (x := p2) dd_SF_few_60 rfl rfl (fr_pc (pc' := 61) rfl ?_)
            refine fr_icmp_ge (tgt := 139) dd_SF_few_61 rfl (fun _ => ?_) (fun _ => ?_)
            · refine fr_wk [true, true, true, true, false, false, false, false, false] ?_
              exact fr_ret rfl
            · refine fr_pc (pc' := 64) rfl ?_
              refine fp_iload_n (i := 1) (x := p1) dd_SF_few_64 rfl rfl (fr_pc (pc' := 65) rfl ?_)
              refine fp_iconst (v := (1 : Int32)) dd_SF_few_65 (by decide) (fr_pc (pc' := 66) rfl ?_)
              refine fp_isub dd_SF_few_66 (fr_pc (pc' := 67) rfl ?_)
              refine fr_nistore (i := 6) dd_SF_few_67 (Nat.le_of_ble_eq_true rfl) (fun _ => c1_i rfl) (fun y13 => fr_to (pc' := 69) (env' := [some (sf_rv p0), some (.int p1), some (.int p2), some (.long x7.toInt64), none, some (.int b11), some (.int y13), none, none]) (stk' := []) rfl rfl rfl ?_)
              refine fr_to (pc' := 69) (env' := [some (sf_rv p0), some (.int p1), some (.int p2), some (.long x7.toInt64), none, some (.int b11), some (.int y13), none, none]) (stk' := []) rfl rfl rfl ?_
              refine fr_bnd (l1 := (fun (e24 : (Unit)) => sf_p 133 [some (sf_rv p0), some (.int p1), some (.int p2), some (.long x7.toInt64), none, some (.int b11), none, none, none] [])) (fr_loop (Lb := (fun (b14 : (Int32)) => sf_p 69 [some (sf_rv p0), some (.int p1), some (.int p2), some (.long x7.toInt64), none, some (.int b11), some (.int b14), none, none] [])) (fun b14 => ?_) _ _) (fun e24 => ?_)
              · refine fp_iload (i := 6) (x := b14) dd_SF_few_69 rfl (fr_pc (pc' := 71) rfl ?_)
                refine fr_if_lt (tgt := 133) dd_SF_few_71 rfl (fun _ => ?_) (fun _ => ?_)
                · refine fr_wk [true, true, true, true, false, true, false, false, false] ?_
                  exact fr_ret rfl
                · refine fr_pc (pc' := 74) rfl ?_
                  refine fp_iload (i := 6) (x := b14) dd_SF_few_74 rfl (fr_pc (pc' := 76) rfl ?_)
                  refine fr_bnd (l1 := (fun (v19 : (Int64)) => sf_p 98 [some (sf_rv p0), some (.int p1), some (.int p2), some (.long x7.toInt64), none, some (.int b11), some (.int b14), none, none] [.long v19])) ?_ (fun v19 => ?_)
                  · refine fr_if_le (tgt := 97) dd_SF_few_76 rfl (fun _ => ?_) (fun _ => ?_)
                    · refine fp_lconst (v := (0 : Int64)) dd_SF_few_97 (by decide) (fr_pc (pc' := 98) rfl ?_)
                      exact fr_ret rfl
                    · refine fr_pc (pc' := 79) rfl ?_
                      refine fp_aload_n (i := 0) (r := p0) dd_SF_few_79 rfl rfl (fr_pc (pc' := 80) rfl ?_)
                      refine fr_gR cl_0 7 (by decide) rfl sw_322 dd_SF_few_80 (fun x17 => fr_pc (pc' := 83) rfl ?_)
                      refine fp_iload (i := 6) (x := b14) dd_SF_few_83 rfl (fr_pc (pc' := 85) rfl ?_)
                      refine fp_iconst (v := (1 : Int32)) dd_SF_few_85 (by decide) (fr_pc (pc' := 86) rfl ?_)
                      refine fp_isub dd_SF_few_86 (fr_pc (pc' := 87) rfl ?_)
                      refine fr_aL dd_SF_few_87 (fun x18 => fr_pc (pc' := 88) rfl ?_)
                      refine fp_lload_n (i := 3) (x := x7.toInt64) dd_SF_few_88 rfl rfl (fr_pc (pc' := 89) rfl ?_)
                      refine fp_lmul dd_SF_few_89 (fr_pc (pc' := 90) rfl ?_)
                      refine fp_ldc2 (v := (10 : Int64)) dd_SF_few_90 sw_1016 (fr_pc (pc' := 93) rfl ?_)
                      refine fp_ldiv0 dd_SF_few_93 (by decide) (fr_pc (pc' := 94) rfl ?_)
                      refine fp_goto (tgt := 98) dd_SF_few_94 rfl ?_
                      exact fr_ret rfl
                  · refine fp_lstore (i := 7) dd_SF_few_98 (Nat.le_of_ble_eq_true rfl) (fun _ => c1_i rfl) (fr_to (pc' := 100) (env' := [some (sf_rv p0), some (.int p1), some (.int p2), some (.long x7.toInt64), none, some (.int b11), some (.int b14), some (.long v19), none]) (stk' := []) rfl rfl rfl ?_)
                    refine fp_aload_n (i := 0) (r := p0) dd_SF_few_100 rfl rfl (fr_pc (pc' := 101) rfl ?_)
                    refine fr_gR cl_0 7 (by decide) rfl sw_322 dd_SF_few_101 (fun x20 => fr_pc (pc' := 104) rfl ?_)
                    refine fp_iload (i := 6) (x := b14) dd_SF_few_104 rfl (fr_pc (pc' := 106) rfl ?_)
                    refine fp_aload_n (i := 0) (r := p0) dd_SF_few_106 rfl rfl (fr_pc (pc' := 107) rfl ?_)
                    refine fr_gR cl_0 7 (by decide) rfl sw_322 dd_SF_few_107 (fun x21 => fr_pc (pc' := 110) rfl ?_)
                    refine fp_iload (i := 6) (x := b14) dd_SF_few_110 rfl (fr_pc (pc' := 112) rfl ?_)
                    refine fr_aL dd_SF_few_112 (fun x22 => fr_pc (pc' := 113) rfl ?_)
                    refine fp_ldc2 (v := (10 : Int64)) dd_SF_few_113 sw_1016 (fr_pc (pc' := 116) rfl ?_)
                    refine fp_lload_n (i := 3) (x := x7.toInt64) dd_SF_few_116 rfl rfl (fr_pc (pc' := 117) rfl ?_)
                    refine fp_lsub dd_SF_few_117 (fr_pc (pc' := 118) rfl ?_)
                    refine fp_lmul dd_SF_few_118 (fr_pc (pc' := 119) rfl ?_)
                    refine fp_ldc2 (v := (10 : Int64)) dd_SF_few_119 sw_1016 (fr_pc (pc' := 122) rfl ?_)
                    refine fp_ldiv0 dd_SF_few_122 (by decide) (fr_pc (pc' := 123) rfl ?_)
                    refine fp_lload (i := 7) (x := v19) dd_SF_few_123 rfl (fr_pc (pc' := 125) rfl ?_)
                    refine fp_ladd dd_SF_few_125 (fr_pc (pc' := 126) rfl ?_)
                    refine fr_sL dd_SF_few_126 (fr_pc (pc' := 127) rfl ?_)
                    refine fr_niinc (i := 6) (x := b14) (w := (-1 : Int32)) dd_SF_few_127 rfl (by decide) (Nat.le_of_ble_eq_true rfl) (fun _ => c1_i rfl) (fun y23 => fr_to (pc' := 130) (env' := [some (sf_rv p0), some (.int p1), some (.int p2), some (.long x7.toInt64), none, some (.int b11), some (.int y23), some (.long v19), none]) (stk' := []) rfl rfl rfl ?_)
                    refine fp_goto (tgt := 69) dd_SF_few_130 rfl ?_
                    refine fr_wk [true, true, true, true, false, true, true, false, false] ?_
                    exact fr_ret rfl
              · refine fr_niinc (i := 5) (x := b11) (w := (1 : Int32)) dd_SF_few_133 rfl (by decide) (Nat.le_of_ble_eq_true rfl) (fun _ => c1_n rfl) (fun y25 => fr_to (pc' := 136) (env' := [some (sf_rv p0), some (.int p1), some (.int p2), some (.long x7.toInt64), none, some (.int y25), none, none, none]) (stk' := []) rfl rfl rfl ?_)
                refine fp_goto (tgt := 58) dd_SF_few_136 rfl ?_
                exact fr_ret rfl
          · refine fp_lconst (v := (0 : Int64)) dd_SF_few_139 (by decide) (fr_pc (pc' := 140) rfl ?_)
            refine fp_lstore (i := 5) dd_SF_few_140 (Nat.le_of_ble_eq_true rfl) (fun _ => c1_n rfl) (fr_to (pc' := 142) (env' := [some (sf_rv p0), some (.int p1), some (.int p2), some (.long x7.toInt64), none, some (.long (0 : Int64)), none, none, none]) (stk' := []) rfl rfl rfl ?_)
            refine fp_iconst (v := (0 : Int32)) dd_SF_few_142 (by decide) (fr_pc (pc' := 143) rfl ?_)
            refine fp_istore (i := 7) dd_SF_few_143 (Nat.le_of_ble_eq_true rfl) (fun _ => c1_n rfl) (fr_to (pc' := 145) (env' := [some (sf_rv p0), some (.int p1), some (.int p2), some (.long x7.toInt64), none, some (.long (0 : Int64)), none, some (.int (0 : Int32)), none]) (stk' := []) rfl rfl rfl ?_)
            refine fr_to (pc' := 145) (env' := [some (sf_rv p0), some (.int p1), some (.int p2), some (.long x7.toInt64), none, some (.long (0 : Int64)), none, some (.int (0 : Int32)), none]) (stk' := []) rfl rfl rfl ?_
            refine fr_bnd (l1 := (fun (e33 : (Int64)) => sf_p 169 [some (sf_rv p0), some (.int p1), some (.int p2), some (.long x7.toInt64), none, some (.long e33), none, none, none] [])) (fr_loop (Lb := (fun (b27 : (Int64 × Int32)) => sf_p 145 [some (sf_rv p0), some (.int p1), some (.int p2), some (.long x7.toInt64), none, some (.long b27.1), none, some (.int b27.2), none] [])) (fun b27 => ?_) _ _) (fun e33 => ?_)
            · refine fp_iload (i := 7) (x := b27.2) dd_SF_few_145 rfl (fr_pc (pc' := 147) rfl ?_)
              refine fp_iload_n (i := 1) (x := p1) dd_SF_few_147 rfl rfl (fr_pc (pc' := 148) rfl ?_)
              refine fr_icmp_ge (tgt := 169) dd_SF_few_148 rfl (fun _ => ?_) (fun _ => ?_)
              · refine fr_wk [true, true, true, true, false, true, false, false, false] ?_
                exact fr_ret rfl
              · refine fr_pc (pc' := 151) rfl ?_
                refine fp_lload (i := 5) (x := b27.1) dd_SF_few_151 rfl (fr_pc (pc' := 153) rfl ?_)
                refine fp_aload_n (i := 0) (r := p0) dd_SF_few_153 rfl rfl (fr_pc (pc' := 154) rfl ?_)
                refine fr_gR cl_0 7 (by decide) rfl sw_322 dd_SF_few_154 (fun x29 => fr_pc (pc' := 157) rfl ?_)
                refine fp_iload (i := 7) (x := b27.2) dd_SF_few_157 rfl (fr_pc (pc' := 159) rfl ?_)
                refine fr_aL dd_SF_few_159 (fun x30 => fr_pc (pc' := 160) rfl ?_)
                refine fp_ladd dd_SF_few_160 (fr_pc (pc' := 161) rfl ?_)
                refine fr_nlstore (i := 5) dd_SF_few_161 (Nat.le_of_ble_eq_true rfl) (fun _ => c1_n rfl) (fun y31 => fr_to (pc' := 163) (env' := [some (sf_rv p0), some (.int p1), some (.int p2), some (.long x7.toInt64), none, some (.long y31), none, some (.int b27.2), none]) (stk' := []) rfl rfl rfl ?_)
                refine fr_niinc (i := 7) (x := b27.2) (w := (1 : Int32)) dd_SF_few_163 rfl (by decide) (Nat.le_of_ble_eq_true rfl) (fun _ => c1_n rfl) (fun y32 => fr_to (pc' := 166) (env' := [some (sf_rv p0), some (.int p1), some (.int p2), some (.long x7.toInt64), none, some (.long y31), none, some (.int y32), none]) (stk' := []) rfl rfl rfl ?_)
                refine fp_goto (tgt := 145) dd_SF_few_166 rfl ?_
                exact fr_ret rfl
            · refine fp_lload (i := 5) (x := e33) dd_SF_few_169 rfl (fr_pc (pc' := 171) rfl ?_)
              exact fr_lret (v := e33) rfl rfl dd_SF_few_171
        · refine fr_pc (pc' := 21) rfl ?_
          refine fp_ldc2 (v := (-1 : Int64)) dd_SF_few_21 sw_1011 (fr_pc (pc' := 24) rfl ?_)
          exact fr_lret (v := (-1 : Int64)) rfl rfl dd_SF_few_24
theorem mt_SF_compare : sf_Mt ({ cls := "SplitFares", name := "compare", desc := "(III)I" } : Jvm.MethodName) prog_1_method_37_code 5 (some .int) 3 := ⟨sw_1020, sw_1, ⟨by decide, by decide, by decide +kernel⟩, by decide⟩
theorem dd_SF_compare_0 : decode prog_1_method_37_code 0 = .ok (.aload_n 0, 1) := by decide +kernel
theorem dd_SF_compare_1 : decode prog_1_method_37_code 1 = .ok (.getfield 12, 3) := by decide +kernel
theorem dd_SF_compare_4 : decode prog_1_method_37_code 4 = .ok (.getfield 67, 3) := by decide +kernel
theorem dd_SF_compare_7 : decode prog_1_method_37_code 7 = .ok (.iload_n 1, 1) := by decide +kernel
theorem dd_SF_compare_8 : decode prog_1_method_37_code 8 = .ok (.invokevirtual 193, 3) := by decide +kernel
theorem dd_SF_compare_11 : decode prog_1_method_37_code 11 = .ok (.astore 4, 2) := by decide +kernel
theorem dd_SF_compare_13 : decode prog_1_method_37_code 13 = .ok (.iload_n 2, 1) := by decide +kernel
theorem dd_SF_compare_14 : decode prog_1_method_37_code 14 = .ok (.iload_n 3, 1) := by decide +kernel
theorem dd_SF_compare_15 : decode prog_1_method_37_code 15 = .ok (.invokestatic 103, 3) := by decide +kernel
theorem dd_SF_compare_18 : decode prog_1_method_37_code 18 = .ok (.ifCond .eq 13, 3) := by decide +kernel
theorem dd_SF_compare_21 : decode prog_1_method_37_code 21 = .ok (.iload_n 1, 1) := by decide +kernel
theorem dd_SF_compare_22 : decode prog_1_method_37_code 22 = .ok (.iconst (-1), 1) := by decide +kernel
theorem dd_SF_compare_23 : decode prog_1_method_37_code 23 = .ok (.if_icmp .eq 10, 3) := by decide +kernel
theorem dd_SF_compare_26 : decode prog_1_method_37_code 26 = .ok (.aload 4, 2) := by decide +kernel
theorem dd_SF_compare_28 : decode prog_1_method_37_code 28 = .ok (.ifnonnull 5, 3) := by decide +kernel
theorem dd_SF_compare_33 : decode prog_1_method_37_code 33 = .ok (.aload_n 0, 1) := by decide +kernel
theorem dd_SF_compare_34 : decode prog_1_method_37_code 34 = .ok (.getfield 12, 3) := by decide +kernel
theorem dd_SF_compare_37 : decode prog_1_method_37_code 37 = .ok (.getfield 67, 3) := by decide +kernel
theorem dd_SF_compare_40 : decode prog_1_method_37_code 40 = .ok (.aload 4, 2) := by decide +kernel
theorem dd_SF_compare_42 : decode prog_1_method_37_code 42 = .ok (.iconst 0, 1) := by decide +kernel
theorem dd_SF_compare_43 : decode prog_1_method_37_code 43 = .ok (.iload_n 2, 1) := by decide +kernel
theorem dd_SF_compare_44 : decode prog_1_method_37_code 44 = .ok (.iload_n 3, 1) := by decide +kernel
theorem dd_SF_compare_45 : decode prog_1_method_37_code 45 = .ok (.invokevirtual 283, 3) := by decide +kernel
theorem dd_SF_compare_48 : decode prog_1_method_37_code 48 = .ok (.ireturn, 1) := by decide +kernel
theorem dd_SF_compare_31 : decode prog_1_method_37_code 31 = .ok (.iconst (-1), 1) := by decide +kernel
theorem dd_SF_compare_32 : decode prog_1_method_37_code 32 = .ok (.ireturn, 1) := by decide +kernel
def jx_SF_compare (p0 : Option Nat) (p1 : Int32) (p2 : Int32) (p3 : Int32) : sf_M (Int32) :=
  sf_bnd (sf_gR 0 0 p0) fun x1 =>
  sf_bnd (sf_gR 1 0 x1) fun x2 =>
  sf_bnd (sf_rc 4 x2 (jx_Office_lawOf x2 p1)) fun x3 =>
  sf_bnd (jx_SF_isLeg p2 p3) fun x4 =>
  if x4 = 0 then (
  sf_ret (-1 : Int32)
  ) else (
  sf_or (α := Int32) (β := (Unit)) (
  if p1 = (-1 : Int32) then (
  sf_ret (.inr ())
  ) else (
  if x3 = none then (
  sf_ret (.inl (-1 : Int32))
  ) else (
  sf_ret (.inr ())
  )
  )
  ) (fun v8 =>
  sf_bnd (sf_gR 0 0 p0) fun x9 =>
  sf_bnd (sf_gR 1 0 x9) fun x10 =>
  sf_bnd (sf_rc 4 x10 (jx_Office_costBy x10 x3 (0 : Int32) p2 p3)) fun x11 =>
  sf_ret x11
  )
  )
set_option maxRecDepth 20000 in
set_option maxHeartbeats 4000000 in
theorem ok_SF_compare (p0 : Option Nat) (p1 : Int32) (p2 : Int32) (p3 : Int32) : sf_Ok ({ cls := "SplitFares", name := "compare", desc := "(III)I" } : Jvm.MethodName) prog_1_method_37_code 5 (some .int) 3 [sf_rv p0, .int p1, .int p2, .int p3] (jx_SF_compare p0 p1 p2 p3) (fun r => some (.int r)) := by
  refine sf_Ok.of (env := [some (sf_rv p0), some (.int p1), some (.int p2), some (.int p3), none]) (plainFor_of_name (by decide)) [false, false, false, false] (fun G => ⟨pk_r, pk_i, pk_i, pk_i, trivial⟩) (Nat.le_of_ble_eq_true rfl) rfl (fun X => ?_)
  unfold jx_SF_compare
  refine fp_aload_n (i := 0) (r := p0) dd_SF_compare_0 rfl rfl (fr_pc (pc' := 1) rfl ?_)
  refine fr_gR cl_0 0 (by decide) rfl sw_315 dd_SF_compare_1 (fun x1 => fr_pc (pc' := 4) rfl ?_)
  refine fr_gR cl_1 0 (by decide) rfl sw_192 dd_SF_compare_4 (fun x2 => fr_pc (pc' := 7) rfl ?_)
  refine fp_iload_n (i := 1) (x := p1) dd_SF_compare_7 rfl rfl (fr_pc (pc' := 8) rfl ?_)
  refine fr_callV (stk := []) (As := [.int p1]) cl_4 (ok_Office_lawOf x2 p1) mt_Office_lawOf rfl rfl sw_865 sw_408 sw_409 (by decide) (Nat.le_of_ble_eq_true rfl) dd_SF_compare_8 (fun x3 => fr_to (pc' := 11) (env' := [some (sf_rv p0), some (.int p1), some (.int p2), some (.int p3), none]) (stk' := [sf_rv x3]) rfl rfl rfl ?_)
  refine fp_astore (i := 4) dd_SF_compare_11 (Nat.le_of_ble_eq_true rfl) (fun _ => c1_i rfl) (fr_to (pc' := 13) (env' := [some (sf_rv p0), some (.int p1), some (.int p2), some (.int p3), some (sf_rv x3)]) (stk' := []) rfl rfl rfl ?_)
  refine fp_iload_n (i := 2) (x := p2) dd_SF_compare_13 rfl rfl (fr_pc (pc' := 14) rfl ?_)
  refine fp_iload_n (i := 3) (x := p3) dd_SF_compare_14 rfl rfl (fr_pc (pc' := 15) rfl ?_)
  refine fr_callS (stk := []) (ok_SF_isLeg p2 p3) mt_SF_isLeg rfl rfl sw_397 sw_398 (by decide) (Nat.le_of_ble_eq_true rfl) dd_SF_compare_15 (fun x4 => fr_to (pc' := 18) (env' := [some (sf_rv p0), some (.int p1), some (.int p2), some (.int p3), some (sf_rv x3)]) (stk' := [.int x4]) rfl rfl rfl ?_)
  refine fr_if_eq (tgt := 31) dd_SF_compare_18 rfl (fun _ => ?_) (fun _ => ?_)
  · refine fp_iconst (v := (-1 : Int32)) dd_SF_compare_31 (by decide) (fr_pc (pc' := 32) rfl ?_)
    exact fr_iret (v := (-1 : Int32)) rfl rfl dd_SF_compare_32
  · refine fr_pc (pc' := 21) rfl ?_
    refine fp_iload_n (i := 1) (x := p1) dd_SF_compare_21 rfl rfl (fr_pc (pc' := 22) rfl ?_)
    refine fp_iconst (v := (-1 : Int32)) dd_SF_compare_22 (by decide) (fr_pc (pc' := 23) rfl ?_)
    refine fr_or (l1 := (fun (v8 : (Unit)) => sf_p 33 [some (sf_rv p0), some (.int p1), some (.int p2), some (.int p3), some (sf_rv x3)] [])) ?_ (fun v8 => ?_)
    · refine fr_icmp_eq (tgt := 33) dd_SF_compare_23 rfl (fun _ => ?_) (fun _ => ?_)
      · exact fr_ret rfl
      · refine fr_pc (pc' := 26) rfl ?_
        refine fp_aload (i := 4) (r := x3) dd_SF_compare_26 rfl (fr_pc (pc' := 28) rfl ?_)
        refine fr_ifnonnull (tgt := 33) dd_SF_compare_28 rfl (fun _ => ?_) (fun _ => ?_)
        · refine fr_pc (pc' := 31) rfl ?_
          refine fp_iconst (v := (-1 : Int32)) dd_SF_compare_31 (by decide) (fr_pc (pc' := 32) rfl ?_)
          exact fr_iret (v := (-1 : Int32)) rfl rfl dd_SF_compare_32
        · exact fr_ret rfl
    · refine fp_aload_n (i := 0) (r := p0) dd_SF_compare_33 rfl rfl (fr_pc (pc' := 34) rfl ?_)
      refine fr_gR cl_0 0 (by decide) rfl sw_315 dd_SF_compare_34 (fun x9 => fr_pc (pc' := 37) rfl ?_)
      refine fr_gR cl_1 0 (by decide) rfl sw_192 dd_SF_compare_37 (fun x10 => fr_pc (pc' := 40) rfl ?_)
      refine fp_aload (i := 4) (r := x3) dd_SF_compare_40 rfl (fr_pc (pc' := 42) rfl ?_)
      refine fp_iconst (v := (0 : Int32)) dd_SF_compare_42 (by decide) (fr_pc (pc' := 43) rfl ?_)
      refine fp_iload_n (i := 2) (x := p2) dd_SF_compare_43 rfl rfl (fr_pc (pc' := 44) rfl ?_)
      refine fp_iload_n (i := 3) (x := p3) dd_SF_compare_44 rfl rfl (fr_pc (pc' := 45) rfl ?_)
      refine fr_callV (stk := []) (As := [sf_rv x3, .int (0 : Int32), .int p2, .int p3]) cl_4 (ok_Office_costBy x10 x3 (0 : Int32) p2 p3) mt_Office_costBy rfl rfl sw_1021 sw_412 sw_413 (by decide) (Nat.le_of_ble_eq_true rfl) dd_SF_compare_45 (fun x11 => fr_to (pc' := 48) (env' := [some (sf_rv p0), some (.int p1), some (.int p2), some (.int p3), some (sf_rv x3)]) (stk' := [.int x11]) rfl rfl rfl ?_)
      exact fr_iret (v := x11) rfl rfl dd_SF_compare_48
theorem mt_SF_months : sf_Mt ({ cls := "SplitFares", name := "months", desc := "(II)I" } : Jvm.MethodName) prog_1_method_38_code 5 (some .int) 2 := ⟨sw_1025, sw_1, ⟨by decide, by decide, by decide +kernel⟩, by decide⟩
theorem dd_SF_months_0 : decode prog_1_method_38_code 0 = .ok (.iload_n 1, 1) := by decide +kernel
theorem dd_SF_months_1 : decode prog_1_method_38_code 1 = .ok (.ifCond .lt 21, 3) := by decide +kernel
theorem dd_SF_months_4 : decode prog_1_method_38_code 4 = .ok (.iload_n 1, 1) := by decide +kernel
theorem dd_SF_months_5 : decode prog_1_method_38_code 5 = .ok (.ldc_w 287, 3) := by decide +kernel
theorem dd_SF_months_8 : decode prog_1_method_38_code 8 = .ok (.if_icmp .gt 14, 3) := by decide +kernel
theorem dd_SF_months_11 : decode prog_1_method_38_code 11 = .ok (.iload_n 2, 1) := by decide +kernel
theorem dd_SF_months_12 : decode prog_1_method_38_code 12 = .ok (.iconst 1, 1) := by decide +kernel
theorem dd_SF_months_13 : decode prog_1_method_38_code 13 = .ok (.if_icmp .lt 9, 3) := by decide +kernel
theorem dd_SF_months_16 : decode prog_1_method_38_code 16 = .ok (.iload_n 2, 1) := by decide +kernel
theorem dd_SF_months_17 : decode prog_1_method_38_code 17 = .ok (.bipush 60, 2) := by decide +kernel
theorem dd_SF_months_19 : decode prog_1_method_38_code 19 = .ok (.if_icmp .le 9, 3) := by decide +kernel
theorem dd_SF_months_28 : decode prog_1_method_38_code 28 = .ok (.aload_n 0, 1) := by decide +kernel
theorem dd_SF_months_29 : decode prog_1_method_38_code 29 = .ok (.getfield 12, 3) := by decide +kernel
theorem dd_SF_months_32 : decode prog_1_method_38_code 32 = .ok (.getfield 67, 3) := by decide +kernel
theorem dd_SF_months_35 : decode prog_1_method_38_code 35 = .ok (.getfield 288, 3) := by decide +kernel
theorem dd_SF_months_38 : decode prog_1_method_38_code 38 = .ok (.ifCond .ne 10, 3) := by decide +kernel
theorem dd_SF_months_41 : decode prog_1_method_38_code 41 = .ok (.aload_n 0, 1) := by decide +kernel
theorem dd_SF_months_42 : decode prog_1_method_38_code 42 = .ok (.bipush (-3), 2) := by decide +kernel
theorem dd_SF_months_44 : decode prog_1_method_38_code 44 = .ok (.invokevirtual 119, 3) := by decide +kernel
theorem dd_SF_months_47 : decode prog_1_method_38_code 47 = .ok (.ireturn, 1) := by decide +kernel
theorem dd_SF_months_48 : decode prog_1_method_38_code 48 = .ok (.aload_n 0, 1) := by decide +kernel
theorem dd_SF_months_49 : decode prog_1_method_38_code 49 = .ok (.getfield 12, 3) := by decide +kernel
theorem dd_SF_months_52 : decode prog_1_method_38_code 52 = .ok (.getfield 67, 3) := by decide +kernel
theorem dd_SF_months_55 : decode prog_1_method_38_code 55 = .ok (.getfield 107, 3) := by decide +kernel
theorem dd_SF_months_58 : decode prog_1_method_38_code 58 = .ok (.astore_n 3, 1) := by decide +kernel
theorem dd_SF_months_59 : decode prog_1_method_38_code 59 = .ok (.aload_n 0, 1) := by decide +kernel
theorem dd_SF_months_60 : decode prog_1_method_38_code 60 = .ok (.getfield 12, 3) := by decide +kernel
theorem dd_SF_months_63 : decode prog_1_method_38_code 63 = .ok (.invokevirtual 177, 3) := by decide +kernel
theorem dd_SF_months_66 : decode prog_1_method_38_code 66 = .ok (.aload_n 0, 1) := by decide +kernel
theorem dd_SF_months_67 : decode prog_1_method_38_code 67 = .ok (.getfield 12, 3) := by decide +kernel
theorem dd_SF_months_70 : decode prog_1_method_38_code 70 = .ok (.iload_n 1, 1) := by decide +kernel
theorem dd_SF_months_71 : decode prog_1_method_38_code 71 = .ok (.iload_n 2, 1) := by decide +kernel
theorem dd_SF_months_72 : decode prog_1_method_38_code 72 = .ok (.invokevirtual 291, 3) := by decide +kernel
theorem dd_SF_months_75 : decode prog_1_method_38_code 75 = .ok (.istore 4, 2) := by decide +kernel
theorem dd_SF_months_77 : decode prog_1_method_38_code 77 = .ok (.aload_n 0, 1) := by decide +kernel
theorem dd_SF_months_78 : decode prog_1_method_38_code 78 = .ok (.getfield 43, 3) := by decide +kernel
theorem dd_SF_months_81 : decode prog_1_method_38_code 81 = .ok (.iconst 0, 1) := by decide +kernel
theorem dd_SF_months_82 : decode prog_1_method_38_code 82 = .ok (.aload_n 3, 1) := by decide +kernel
theorem dd_SF_months_83 : decode prog_1_method_38_code 83 = .ok (.getfield 253, 3) := by decide +kernel
theorem dd_SF_months_86 : decode prog_1_method_38_code 86 = .ok (.iastore, 1) := by decide +kernel
theorem dd_SF_months_87 : decode prog_1_method_38_code 87 = .ok (.aload_n 0, 1) := by decide +kernel
theorem dd_SF_months_88 : decode prog_1_method_38_code 88 = .ok (.getfield 43, 3) := by decide +kernel
theorem dd_SF_months_91 : decode prog_1_method_38_code 91 = .ok (.iconst 1, 1) := by decide +kernel
theorem dd_SF_months_92 : decode prog_1_method_38_code 92 = .ok (.aload_n 3, 1) := by decide +kernel
theorem dd_SF_months_93 : decode prog_1_method_38_code 93 = .ok (.getfield 251, 3) := by decide +kernel
theorem dd_SF_months_96 : decode prog_1_method_38_code 96 = .ok (.iastore, 1) := by decide +kernel
theorem dd_SF_months_97 : decode prog_1_method_38_code 97 = .ok (.aload_n 0, 1) := by decide +kernel
theorem dd_SF_months_98 : decode prog_1_method_38_code 98 = .ok (.getfield 43, 3) := by decide +kernel
theorem dd_SF_months_101 : decode prog_1_method_38_code 101 = .ok (.iconst 2, 1) := by decide +kernel
theorem dd_SF_months_102 : decode prog_1_method_38_code 102 = .ok (.aload_n 3, 1) := by decide +kernel
theorem dd_SF_months_103 : decode prog_1_method_38_code 103 = .ok (.invokevirtual 294, 3) := by decide +kernel
theorem dd_SF_months_106 : decode prog_1_method_38_code 106 = .ok (.iastore, 1) := by decide +kernel
theorem dd_SF_months_107 : decode prog_1_method_38_code 107 = .ok (.aload_n 0, 1) := by decide +kernel
theorem dd_SF_months_108 : decode prog_1_method_38_code 108 = .ok (.getfield 43, 3) := by decide +kernel
theorem dd_SF_months_111 : decode prog_1_method_38_code 111 = .ok (.iconst 3, 1) := by decide +kernel
theorem dd_SF_months_112 : decode prog_1_method_38_code 112 = .ok (.aload_n 3, 1) := by decide +kernel
theorem dd_SF_months_113 : decode prog_1_method_38_code 113 = .ok (.getfield 297, 3) := by decide +kernel
theorem dd_SF_months_116 : decode prog_1_method_38_code 116 = .ok (.iastore, 1) := by decide +kernel
theorem dd_SF_months_117 : decode prog_1_method_38_code 117 = .ok (.aload_n 0, 1) := by decide +kernel
theorem dd_SF_months_118 : decode prog_1_method_38_code 118 = .ok (.iconst 1, 1) := by decide +kernel
theorem dd_SF_months_119 : decode prog_1_method_38_code 119 = .ok (.putfield 50, 3) := by decide +kernel
theorem dd_SF_months_122 : decode prog_1_method_38_code 122 = .ok (.aload_n 0, 1) := by decide +kernel
theorem dd_SF_months_123 : decode prog_1_method_38_code 123 = .ok (.getfield 12, 3) := by decide +kernel
theorem dd_SF_months_126 : decode prog_1_method_38_code 126 = .ok (.invokevirtual 190, 3) := by decide +kernel
theorem dd_SF_months_129 : decode prog_1_method_38_code 129 = .ok (.aload_n 0, 1) := by decide +kernel
theorem dd_SF_months_130 : decode prog_1_method_38_code 130 = .ok (.iload 4, 2) := by decide +kernel
theorem dd_SF_months_132 : decode prog_1_method_38_code 132 = .ok (.invokevirtual 138, 3) := by decide +kernel
theorem dd_SF_months_135 : decode prog_1_method_38_code 135 = .ok (.ireturn, 1) := by decide +kernel
theorem dd_SF_months_22 : decode prog_1_method_38_code 22 = .ok (.aload_n 0, 1) := by decide +kernel
theorem dd_SF_months_23 : decode prog_1_method_38_code 23 = .ok (.iconst (-1), 1) := by decide +kernel
theorem dd_SF_months_24 : decode prog_1_method_38_code 24 = .ok (.invokevirtual 119, 3) := by decide +kernel
theorem dd_SF_months_27 : decode prog_1_method_38_code 27 = .ok (.ireturn, 1) := by decide +kernel
def jx_SF_months (p0 : Option Nat) (p1 : Int32) (p2 : Int32) : sf_M (Int32) :=
  sf_or (α := Int32) (β := (Unit)) (
  if p1 < 0 then (
  sf_ret (.inr ())
  ) else (
  if (1000000 : Int32) < p1 then (
  sf_ret (.inr ())
  ) else (
  if p2 < (1 : Int32) then (
  sf_ret (.inr ())
  ) else (
  if p2 ≤ (60 : Int32) then (
  sf_bnd (sf_gR 0 0 p0) fun x5 =>
  sf_bnd (sf_gR 1 0 x5) fun x6 =>
  sf_bnd (sf_gI 4 1 x6) fun x7 =>
  if x7 = 0 then (
  sf_bnd (sf_rc 0 p0 (jx_SF_refused p0 (-3 : Int32))) fun x9 =>
  sf_ret (.inl x9)
  ) else (
  sf_bnd (sf_gR 0 0 p0) fun x10 =>
  sf_bnd (sf_gR 1 0 x10) fun x11 =>
  sf_bnd (sf_gR 4 0 x11) fun x12 =>
  sf_bnd (sf_gR 0 0 p0) fun x13 =>
  sf_bnd (sf_rc 1 x13 (jx_Desk_begin x13)) fun _ =>
  sf_bnd (sf_gR 0 0 p0) fun x15 =>
  sf_bnd (sf_rc 1 x15 (jx_Desk_drawMonths x15 p1 p2)) fun x16 =>
  sf_bnd (sf_gR 0 6 p0) fun x17 =>
  sf_bnd (sf_gI 5 1 x12) fun x18 =>
  sf_bnd (sf_sI 0 x17 (0 : Int32) x18) fun _ =>
  sf_bnd (sf_gR 0 6 p0) fun x19 =>
  sf_bnd (sf_gI 5 2 x12) fun x20 =>
  sf_bnd (sf_sI 0 x19 (1 : Int32) x20) fun _ =>
  sf_bnd (sf_gR 0 6 p0) fun x21 =>
  sf_bnd (sf_rc 5 x12 (jx_Pocket_heldInAll x12)) fun x22 =>
  sf_bnd (sf_sI 0 x21 (2 : Int32) x22) fun _ =>
  sf_bnd (sf_gR 0 6 p0) fun x23 =>
  sf_bnd (sf_gI 5 3 x12) fun x24 =>
  sf_bnd (sf_sI 0 x23 (3 : Int32) x24) fun _ =>
  sf_bnd (sf_pI 0 8 p0 (1 : Int32)) fun _ =>
  sf_bnd (sf_gR 0 0 p0) fun x25 =>
  sf_bnd (sf_rc 1 x25 (jx_Desk_takeBack x25)) fun _ =>
  sf_bnd (sf_rc 0 p0 (jx_SF_accepted p0 x16)) fun x27 =>
  sf_ret (.inl x27)
  )
  ) else (
  sf_ret (.inr ())
  )
  )
  )
  )
  ) (fun v28 =>
  sf_bnd (sf_rc 0 p0 (jx_SF_refused p0 (-1 : Int32))) fun x29 =>
  sf_ret x29
  )
set_option maxRecDepth 20000 in
set_option maxHeartbeats 4000000 in
theorem ok_SF_months (p0 : Option Nat) (p1 : Int32) (p2 : Int32) : sf_Ok ({ cls := "SplitFares", name := "months", desc := "(II)I" } : Jvm.MethodName) prog_1_method_38_code 5 (some .int) 6 [sf_rv p0, .int p1, .int p2] (jx_SF_months p0 p1 p2) (fun r => some (.int r)) := by
  refine sf_Ok.of (env := [some (sf_rv p0), some (.int p1), some (.int p2), none, none]) (plainFor_of_name (by decide)) [false, false, false] (fun G => ⟨pk_r, pk_i, pk_i, trivial⟩) (Nat.le_of_ble_eq_true rfl) rfl (fun X => ?_)
  unfold jx_SF_months
  refine fp_iload_n (i := 1) (x := p1) dd_SF_months_0 rfl rfl (fr_pc (pc' := 1) rfl ?_)
  refine fr_or (l1 := (fun (v28 : (Unit)) => sf_p 22 [some (sf_rv p0), some (.int p1), some (.int p2), none, none] [])) ?_ (fun v28 => ?_)
  · refine fr_if_lt (tgt := 22) dd_SF_months_1 rfl (fun _ => ?_) (fun _ => ?_)
    · exact fr_ret rfl
    · refine fr_pc (pc' := 4) rfl ?_
      refine fp_iload_n (i := 1) (x := p1) dd_SF_months_4 rfl rfl (fr_pc (pc' := 5) rfl ?_)
      refine fp_ldcw (v := (1000000 : Int32)) dd_SF_months_5 sw_1026 (fr_pc (pc' := 8) rfl ?_)
      refine fr_icmp_gt (tgt := 22) dd_SF_months_8 rfl (fun _ => ?_) (fun _ => ?_)
      · exact fr_ret rfl
      · refine fr_pc (pc' := 11) rfl ?_
        refine fp_iload_n (i := 2) (x := p2) dd_SF_months_11 rfl rfl (fr_pc (pc' := 12) rfl ?_)
        refine fp_iconst (v := (1 : Int32)) dd_SF_months_12 (by decide) (fr_pc (pc' := 13) rfl ?_)
        refine fr_icmp_lt (tgt := 22) dd_SF_months_13 rfl (fun _ => ?_) (fun _ => ?_)
        · exact fr_ret rfl
        · refine fr_pc (pc' := 16) rfl ?_
          refine fp_iload_n (i := 2) (x := p2) dd_SF_months_16 rfl rfl (fr_pc (pc' := 17) rfl ?_)
          refine fp_bipush (v := (60 : Int32)) dd_SF_months_17 (by decide) (fr_pc (pc' := 19) rfl ?_)
          refine fr_icmp_le (tgt := 28) dd_SF_months_19 rfl (fun _ => ?_) (fun _ => ?_)
          · refine fp_aload_n (i := 0) (r := p0) dd_SF_months_28 rfl rfl (fr_pc (pc' := 29) rfl ?_)
            refine fr_gR cl_0 0 (by decide) rfl sw_315 dd_SF_months_29 (fun x5 => fr_pc (pc' := 32) rfl ?_)
            refine fr_gR cl_1 0 (by decide) rfl sw_192 dd_SF_months_32 (fun x6 => fr_pc (pc' := 35) rfl ?_)
            refine fr_gI cl_4 1 (by decide) rfl sw_91 dd_SF_months_35 (fun x7 => fr_pc (pc' := 38) rfl ?_)
            refine fr_if_ne (tgt := 48) dd_SF_months_38 rfl (fun _ => ?_) (fun _ => ?_)
            · refine fr_pc (pc' := 41) rfl ?_
              refine fp_aload_n (i := 0) (r := p0) dd_SF_months_41 rfl rfl (fr_pc (pc' := 42) rfl ?_)
              refine fp_bipush (v := (-3 : Int32)) dd_SF_months_42 (by decide) (fr_pc (pc' := 44) rfl ?_)
              refine fr_callV (stk := []) (As := [.int (-3 : Int32)]) cl_0 (ok_SF_refused p0 (-3 : Int32)) mt_SF_refused rfl rfl sw_374 sw_376 sp_1 (by decide) (Nat.le_of_ble_eq_true rfl) dd_SF_months_44 (fun x9 => fr_to (pc' := 47) (env' := [some (sf_rv p0), some (.int p1), some (.int p2), none, none]) (stk' := [.int x9]) rfl rfl rfl ?_)
              exact fr_iret (v := x9) rfl rfl dd_SF_months_47
            · refine fp_aload_n (i := 0) (r := p0) dd_SF_months_48 rfl rfl (fr_pc (pc' := 49) rfl ?_)
              refine fr_gR cl_0 0 (by decide) rfl sw_315 dd_SF_months_49 (fun x10 => fr_pc (pc' := 52) rfl ?_)
              refine fr_gR cl_1 0 (by decide) rfl sw_192 dd_SF_months_52 (fun x11 => fr_pc (pc' := 55) rfl ?_)
              refine fr_gR cl_4 0 (by decide) rfl sw_88 dd_SF_months_55 (fun x12 => fr_pc (pc' := 58) rfl ?_)
              refine fp_astore_n (i := 3) dd_SF_months_58 rfl (Nat.le_of_ble_eq_true rfl) (fun _ => c1_i rfl) (fr_to (pc' := 59) (env' := [some (sf_rv p0), some (.int p1), some (.int p2), some (sf_rv x12), none]) (stk' := []) rfl rfl rfl ?_)
              refine fp_aload_n (i := 0) (r := p0) dd_SF_months_59 rfl rfl (fr_pc (pc' := 60) rfl ?_)
              refine fr_gR cl_0 0 (by decide) rfl sw_315 dd_SF_months_60 (fun x13 => fr_pc (pc' := 63) rfl ?_)
              refine fr_callV (stk := []) (As := []) cl_1 (ok_Desk_begin x13) mt_Desk_begin rfl rfl sw_742 sw_743 sw_744 (by decide) (Nat.le_of_ble_eq_true rfl) dd_SF_months_63 (fun u14 => fr_to (pc' := 66) (env' := [some (sf_rv p0), some (.int p1), some (.int p2), some (sf_rv x12), none]) (stk' := []) rfl rfl rfl ?_)
              refine fp_aload_n (i := 0) (r := p0) dd_SF_months_66 rfl rfl (fr_pc (pc' := 67) rfl ?_)
              refine fr_gR cl_0 0 (by decide) rfl sw_315 dd_SF_months_67 (fun x15 => fr_pc (pc' := 70) rfl ?_)
              refine fp_iload_n (i := 1) (x := p1) dd_SF_months_70 rfl rfl (fr_pc (pc' := 71) rfl ?_)
              refine fp_iload_n (i := 2) (x := p2) dd_SF_months_71 rfl rfl (fr_pc (pc' := 72) rfl ?_)
              refine fr_callV (stk := []) (As := [.int p1, .int p2]) cl_1 (ok_Desk_drawMonths x15 p1 p2) mt_Desk_drawMonths rfl rfl sw_1027 sw_1028 sw_1029 (by decide) (Nat.le_of_ble_eq_true rfl) dd_SF_months_72 (fun x16 => fr_to (pc' := 75) (env' := [some (sf_rv p0), some (.int p1), some (.int p2), some (sf_rv x12), none]) (stk' := [.int x16]) rfl rfl rfl ?_)
              refine fp_istore (i := 4) dd_SF_months_75 (Nat.le_of_ble_eq_true rfl) (fun _ => c1_r rfl) (fr_to (pc' := 77) (env' := [some (sf_rv p0), some (.int p1), some (.int p2), some (sf_rv x12), some (.int x16)]) (stk' := []) rfl rfl rfl ?_)
              refine fp_aload_n (i := 0) (r := p0) dd_SF_months_77 rfl rfl (fr_pc (pc' := 78) rfl ?_)
              refine fr_gR cl_0 6 (by decide) rfl sw_321 dd_SF_months_78 (fun x17 => fr_pc (pc' := 81) rfl ?_)
              refine fp_iconst (v := (0 : Int32)) dd_SF_months_81 (by decide) (fr_pc (pc' := 82) rfl ?_)
              refine fp_aload_n (i := 3) (r := x12) dd_SF_months_82 rfl rfl (fr_pc (pc' := 83) rfl ?_)
              refine fr_gI cl_5 1 (by decide) rfl sw_50 dd_SF_months_83 (fun x18 => fr_pc (pc' := 86) rfl ?_)
              refine fr_sI0 dd_SF_months_86 (fr_pc (pc' := 87) rfl ?_)
              refine fp_aload_n (i := 0) (r := p0) dd_SF_months_87 rfl rfl (fr_pc (pc' := 88) rfl ?_)
              refine fr_gR cl_0 6 (by decide) rfl sw_321 dd_SF_months_88 (fun x19 => fr_pc (pc' := 91) rfl ?_)
              refine fp_iconst (v := (1 : Int32)) dd_SF_months_91 (by decide) (fr_pc (pc' := 92) rfl ?_)
              refine fp_aload_n (i := 3) (r := x12) dd_SF_months_92 rfl rfl (fr_pc (pc' := 93) rfl ?_)
              refine fr_gI cl_5 2 (by decide) rfl sw_53 dd_SF_months_93 (fun x20 => fr_pc (pc' := 96) rfl ?_)
              refine fr_sI0 dd_SF_months_96 (fr_pc (pc' := 97) rfl ?_)
              refine fp_aload_n (i := 0) (r := p0) dd_SF_months_97 rfl rfl (fr_pc (pc' := 98) rfl ?_)
              refine fr_gR cl_0 6 (by decide) rfl sw_321 dd_SF_months_98 (fun x21 => fr_pc (pc' := 101) rfl ?_)
              refine fp_iconst (v := (2 : Int32)) dd_SF_months_101 (by decide) (fr_pc (pc' := 102) rfl ?_)
              refine fp_aload_n (i := 3) (r := x12) dd_SF_months_102 rfl rfl (fr_pc (pc' := 103) rfl ?_)
              refine fr_callV (stk := [.int (2 : Int32), sf_rv x21]) (As := []) cl_5 (ok_Pocket_heldInAll x12) mt_Pocket_heldInAll rfl rfl sw_1036 sw_766 sw_767 (by decide) (Nat.le_of_ble_eq_true rfl) dd_SF_months_103 (fun x22 => fr_to (pc' := 106) (env' := [some (sf_rv p0), some (.int p1), some (.int p2), some (sf_rv x12), some (.int x16)]) (stk' := [.int x22, .int (2 : Int32), sf_rv x21]) rfl rfl rfl ?_)
              refine fr_sI0 dd_SF_months_106 (fr_pc (pc' := 107) rfl ?_)
              refine fp_aload_n (i := 0) (r := p0) dd_SF_months_107 rfl rfl (fr_pc (pc' := 108) rfl ?_)
              refine fr_gR cl_0 6 (by decide) rfl sw_321 dd_SF_months_108 (fun x23 => fr_pc (pc' := 111) rfl ?_)
              refine fp_iconst (v := (3 : Int32)) dd_SF_months_111 (by decide) (fr_pc (pc' := 112) rfl ?_)
              refine fp_aload_n (i := 3) (r := x12) dd_SF_months_112 rfl rfl (fr_pc (pc' := 113) rfl ?_)
              refine fr_gI cl_5 3 (by decide) rfl sw_57 dd_SF_months_113 (fun x24 => fr_pc (pc' := 116) rfl ?_)
              refine fr_sI0 dd_SF_months_116 (fr_pc (pc' := 117) rfl ?_)
              refine fp_aload_n (i := 0) (r := p0) dd_SF_months_117 rfl rfl (fr_pc (pc' := 118) rfl ?_)
              refine fp_iconst (v := (1 : Int32)) dd_SF_months_118 (by decide) (fr_pc (pc' := 119) rfl ?_)
              refine fr_pI cl_0 8 (by decide) rfl sw_323 rfl ⟨rfl, rfl⟩ dd_SF_months_119 (fr_pc (pc' := 122) rfl ?_)
              refine fp_aload_n (i := 0) (r := p0) dd_SF_months_122 rfl rfl (fr_pc (pc' := 123) rfl ?_)
              refine fr_gR cl_0 0 (by decide) rfl sw_315 dd_SF_months_123 (fun x25 => fr_pc (pc' := 126) rfl ?_)
              refine fr_callV (stk := []) (As := []) cl_1 (ok_Desk_takeBack x25) mt_Desk_takeBack rfl rfl sw_849 sw_850 sw_851 (by decide) (Nat.le_of_ble_eq_true rfl) dd_SF_months_126 (fun u26 => fr_to (pc' := 129) (env' := [some (sf_rv p0), some (.int p1), some (.int p2), some (sf_rv x12), some (.int x16)]) (stk' := []) rfl rfl rfl ?_)
              refine fp_aload_n (i := 0) (r := p0) dd_SF_months_129 rfl rfl (fr_pc (pc' := 130) rfl ?_)
              refine fp_iload (i := 4) (x := x16) dd_SF_months_130 rfl (fr_pc (pc' := 132) rfl ?_)
              refine fr_callV (stk := []) (As := [.int x16]) cl_0 (ok_SF_accepted p0 x16) mt_SF_accepted rfl rfl sw_378 sw_380 sp_2 (by decide) (Nat.le_of_ble_eq_true rfl) dd_SF_months_132 (fun x27 => fr_to (pc' := 135) (env' := [some (sf_rv p0), some (.int p1), some (.int p2), some (sf_rv x12), some (.int x16)]) (stk' := [.int x27]) rfl rfl rfl ?_)
              exact fr_iret (v := x27) rfl rfl dd_SF_months_135
          · refine fr_pc (pc' := 22) rfl ?_
            exact fr_ret rfl
  · refine fp_aload_n (i := 0) (r := p0) dd_SF_months_22 rfl rfl (fr_pc (pc' := 23) rfl ?_)
    refine fp_iconst (v := (-1 : Int32)) dd_SF_months_23 (by decide) (fr_pc (pc' := 24) rfl ?_)
    refine fr_callV (stk := []) (As := [.int (-1 : Int32)]) cl_0 (ok_SF_refused p0 (-1 : Int32)) mt_SF_refused rfl rfl sw_374 sw_376 sp_1 (by decide) (Nat.le_of_ble_eq_true rfl) dd_SF_months_24 (fun x29 => fr_to (pc' := 27) (env' := [some (sf_rv p0), some (.int p1), some (.int p2), none, none]) (stk' := [.int x29]) rfl rfl rfl ?_)
    exact fr_iret (v := x29) rfl rfl dd_SF_months_27
theorem mt_SF_drawn : sf_Mt ({ cls := "SplitFares", name := "drawn", desc := "(I)I" } : Jvm.MethodName) prog_1_method_39_code 2 (some .int) 1 := ⟨sw_1040, sw_1, ⟨by decide, by decide, by decide +kernel⟩, by decide⟩
theorem dd_SF_drawn_0 : decode prog_1_method_39_code 0 = .ok (.aload_n 0, 1) := by decide +kernel
theorem dd_SF_drawn_1 : decode prog_1_method_39_code 1 = .ok (.getfield 50, 3) := by decide +kernel
theorem dd_SF_drawn_4 : decode prog_1_method_39_code 4 = .ok (.ifCond .eq 25, 3) := by decide +kernel
theorem dd_SF_drawn_7 : decode prog_1_method_39_code 7 = .ok (.iload_n 1, 1) := by decide +kernel
theorem dd_SF_drawn_8 : decode prog_1_method_39_code 8 = .ok (.ifCond .lt 21, 3) := by decide +kernel
theorem dd_SF_drawn_11 : decode prog_1_method_39_code 11 = .ok (.iload_n 1, 1) := by decide +kernel
theorem dd_SF_drawn_12 : decode prog_1_method_39_code 12 = .ok (.aload_n 0, 1) := by decide +kernel
theorem dd_SF_drawn_13 : decode prog_1_method_39_code 13 = .ok (.getfield 43, 3) := by decide +kernel
theorem dd_SF_drawn_16 : decode prog_1_method_39_code 16 = .ok (.arraylength, 1) := by decide +kernel
theorem dd_SF_drawn_17 : decode prog_1_method_39_code 17 = .ok (.if_icmp .ge 12, 3) := by decide +kernel
theorem dd_SF_drawn_20 : decode prog_1_method_39_code 20 = .ok (.aload_n 0, 1) := by decide +kernel
theorem dd_SF_drawn_21 : decode prog_1_method_39_code 21 = .ok (.getfield 43, 3) := by decide +kernel
theorem dd_SF_drawn_24 : decode prog_1_method_39_code 24 = .ok (.iload_n 1, 1) := by decide +kernel
theorem dd_SF_drawn_25 : decode prog_1_method_39_code 25 = .ok (.iaload, 1) := by decide +kernel
theorem dd_SF_drawn_26 : decode prog_1_method_39_code 26 = .ok (.goto 4, 3) := by decide +kernel
theorem dd_SF_drawn_29 : decode prog_1_method_39_code 29 = .ok (.iconst (-1), 1) := by decide +kernel
theorem dd_SF_drawn_30 : decode prog_1_method_39_code 30 = .ok (.ireturn, 1) := by decide +kernel
def jx_SF_drawn (p0 : Option Nat) (p1 : Int32) : sf_M (Int32) :=
  sf_bnd (sf_gI 0 8 p0) fun x1 =>
  if x1 = 0 then (
  sf_ret (-1 : Int32)
  ) else (
  if p1 < 0 then (
  sf_ret (-1 : Int32)
  ) else (
  sf_bnd (sf_gR 0 6 p0) fun x4 =>
  sf_bnd (sf_len x4) fun x5 =>
  if x5 ≤ p1 then (
  sf_ret (-1 : Int32)
  ) else (
  sf_bnd (sf_gR 0 6 p0) fun x7 =>
  sf_bnd (sf_aI 0 x7 p1) fun x8 =>
  sf_ret x8
  )
  )
  )
set_option maxRecDepth 20000 in
set_option maxHeartbeats 4000000 in
theorem ok_SF_drawn (p0 : Option Nat) (p1 : Int32) : sf_Ok ({ cls := "SplitFares", name := "drawn", desc := "(I)I" } : Jvm.MethodName) prog_1_method_39_code 2 (some .int) 0 [sf_rv p0, .int p1] (jx_SF_drawn p0 p1) (fun r => some (.int r)) := by
  refine sf_Ok.of (env := [some (sf_rv p0), some (.int p1)]) (plainFor_of_name (by decide)) [false, false] (fun G => ⟨pk_r, pk_i, trivial⟩) (Nat.le_of_ble_eq_true rfl) rfl (fun X => ?_)
  unfold jx_SF_drawn
  refine fp_aload_n (i := 0) (r := p0) dd_SF_drawn_0 rfl rfl (fr_pc (pc' := 1) rfl ?_)
  refine fr_gI cl_0 8 (by decide) rfl sw_323 dd_SF_drawn_1 (fun x1 => fr_pc (pc' := 4) rfl ?_)
  refine fr_if_eq (tgt := 29) dd_SF_drawn_4 rfl (fun _ => ?_) (fun _ => ?_)
  · refine fp_iconst (v := (-1 : Int32)) dd_SF_drawn_29 (by decide) (fr_pc (pc' := 30) rfl ?_)
    exact fr_iret (v := (-1 : Int32)) rfl rfl dd_SF_drawn_30
  · refine fr_pc (pc' := 7) rfl ?_
    refine fp_iload_n (i := 1) (x := p1) dd_SF_drawn_7 rfl rfl (fr_pc (pc' := 8) rfl ?_)
    refine fr_if_lt (tgt := 29) dd_SF_drawn_8 rfl (fun _ => ?_) (fun _ => ?_)
    · refine fp_iconst (v := (-1 : Int32)) dd_SF_drawn_29 (by decide) (fr_pc (pc' := 30) rfl ?_)
      exact fr_iret (v := (-1 : Int32)) rfl rfl dd_SF_drawn_30
    · refine fr_pc (pc' := 11) rfl ?_
      refine fp_iload_n (i := 1) (x := p1) dd_SF_drawn_11 rfl rfl (fr_pc (pc' := 12) rfl ?_)
      refine fp_aload_n (i := 0) (r := p0) dd_SF_drawn_12 rfl rfl (fr_pc (pc' := 13) rfl ?_)
      refine fr_gR cl_0 6 (by decide) rfl sw_321 dd_SF_drawn_13 (fun x4 => fr_pc (pc' := 16) rfl ?_)
      refine fr_len dd_SF_drawn_16 (fun x5 => fr_pc (pc' := 17) rfl ?_)
      refine fr_icmp_ge (tgt := 29) dd_SF_drawn_17 rfl (fun _ => ?_) (fun _ => ?_)
      · refine fp_iconst (v := (-1 : Int32)) dd_SF_drawn_29 (by decide) (fr_pc (pc' := 30) rfl ?_)
        exact fr_iret (v := (-1 : Int32)) rfl rfl dd_SF_drawn_30
      · refine fr_pc (pc' := 20) rfl ?_
        refine fp_aload_n (i := 0) (r := p0) dd_SF_drawn_20 rfl rfl (fr_pc (pc' := 21) rfl ?_)
        refine fr_gR cl_0 6 (by decide) rfl sw_321 dd_SF_drawn_21 (fun x7 => fr_pc (pc' := 24) rfl ?_)
        refine fp_iload_n (i := 1) (x := p1) dd_SF_drawn_24 rfl rfl (fr_pc (pc' := 25) rfl ?_)
        refine fr_aI0 dd_SF_drawn_25 (fun x8 => fr_pc (pc' := 26) rfl ?_)
        refine fp_goto (tgt := 30) dd_SF_drawn_26 rfl ?_
        exact fr_iret (v := x8) rfl rfl dd_SF_drawn_30
theorem mt_SF_image : sf_Mt ({ cls := "SplitFares", name := "image", desc := "(I)I" } : Jvm.MethodName) prog_1_method_40_code 3 (some .int) 1 := ⟨sw_1044, sw_1, ⟨by decide, by decide, by decide +kernel⟩, by decide⟩
theorem dd_SF_image_0 : decode prog_1_method_40_code 0 = .ok (.iload_n 1, 1) := by decide +kernel
theorem dd_SF_image_1 : decode prog_1_method_40_code 1 = .ok (.ifCond .lt 8, 3) := by decide +kernel
theorem dd_SF_image_4 : decode prog_1_method_40_code 4 = .ok (.iload_n 1, 1) := by decide +kernel
theorem dd_SF_image_5 : decode prog_1_method_40_code 5 = .ok (.iconst 2, 1) := by decide +kernel
theorem dd_SF_image_6 : decode prog_1_method_40_code 6 = .ok (.if_icmp .lt 9, 3) := by decide +kernel
theorem dd_SF_image_15 : decode prog_1_method_40_code 15 = .ok (.aload_n 0, 1) := by decide +kernel
theorem dd_SF_image_16 : decode prog_1_method_40_code 16 = .ok (.getfield 32, 3) := by decide +kernel
theorem dd_SF_image_19 : decode prog_1_method_40_code 19 = .ok (.iload_n 1, 1) := by decide +kernel
theorem dd_SF_image_20 : decode prog_1_method_40_code 20 = .ok (.aaload, 1) := by decide +kernel
theorem dd_SF_image_21 : decode prog_1_method_40_code 21 = .ok (.astore_n 2, 1) := by decide +kernel
theorem dd_SF_image_22 : decode prog_1_method_40_code 22 = .ok (.aload_n 2, 1) := by decide +kernel
theorem dd_SF_image_23 : decode prog_1_method_40_code 23 = .ok (.ifnonnull 18, 3) := by decide +kernel
theorem dd_SF_image_26 : decode prog_1_method_40_code 26 = .ok (.new 30, 3) := by decide +kernel
theorem dd_SF_image_29 : decode prog_1_method_40_code 29 = .ok (.dup, 1) := by decide +kernel
theorem dd_SF_image_30 : decode prog_1_method_40_code 30 = .ok (.invokespecial 300, 3) := by decide +kernel
theorem dd_SF_image_33 : decode prog_1_method_40_code 33 = .ok (.astore_n 2, 1) := by decide +kernel
theorem dd_SF_image_34 : decode prog_1_method_40_code 34 = .ok (.aload_n 0, 1) := by decide +kernel
theorem dd_SF_image_35 : decode prog_1_method_40_code 35 = .ok (.getfield 32, 3) := by decide +kernel
theorem dd_SF_image_38 : decode prog_1_method_40_code 38 = .ok (.iload_n 1, 1) := by decide +kernel
theorem dd_SF_image_39 : decode prog_1_method_40_code 39 = .ok (.aload_n 2, 1) := by decide +kernel
theorem dd_SF_image_40 : decode prog_1_method_40_code 40 = .ok (.aastore, 1) := by decide +kernel
theorem dd_SF_image_41 : decode prog_1_method_40_code 41 = .ok (.aload_n 2, 1) := by decide +kernel
theorem dd_SF_image_42 : decode prog_1_method_40_code 42 = .ok (.aload_n 0, 1) := by decide +kernel
theorem dd_SF_image_43 : decode prog_1_method_40_code 43 = .ok (.getfield 12, 3) := by decide +kernel
theorem dd_SF_image_46 : decode prog_1_method_40_code 46 = .ok (.getfield 67, 3) := by decide +kernel
theorem dd_SF_image_49 : decode prog_1_method_40_code 49 = .ok (.invokevirtual 301, 3) := by decide +kernel
theorem dd_SF_image_52 : decode prog_1_method_40_code 52 = .ok (.aload_n 0, 1) := by decide +kernel
theorem dd_SF_image_53 : decode prog_1_method_40_code 53 = .ok (.iconst 0, 1) := by decide +kernel
theorem dd_SF_image_54 : decode prog_1_method_40_code 54 = .ok (.invokevirtual 138, 3) := by decide +kernel
theorem dd_SF_image_57 : decode prog_1_method_40_code 57 = .ok (.ireturn, 1) := by decide +kernel
theorem dd_SF_image_9 : decode prog_1_method_40_code 9 = .ok (.aload_n 0, 1) := by decide +kernel
theorem dd_SF_image_10 : decode prog_1_method_40_code 10 = .ok (.iconst (-1), 1) := by decide +kernel
theorem dd_SF_image_11 : decode prog_1_method_40_code 11 = .ok (.invokevirtual 119, 3) := by decide +kernel
theorem dd_SF_image_14 : decode prog_1_method_40_code 14 = .ok (.ireturn, 1) := by decide +kernel
def jx_SF_image (p0 : Option Nat) (p1 : Int32) : sf_M (Int32) :=
  sf_or (α := Int32) (β := (Unit)) (
  if p1 < 0 then (
  sf_ret (.inr ())
  ) else (
  if p1 < (2 : Int32) then (
  sf_bnd (sf_gR 0 3 p0) fun x3 =>
  sf_bnd (sf_aR 5 x3 p1) fun x4 =>
  sf_bnd (α := (Option Nat)) (
  if x4 = none then (
  sf_bnd (sf_new 4 14) fun x6 =>
  sf_bnd (sf_rc 4 x6 (jx_Office_init x6)) fun _ =>
  sf_bnd (sf_gR 0 3 p0) fun x8 =>
  sf_bnd (sf_sR 5 4 x8 p1 x6) fun _ =>
  sf_ret x6
  ) else (
  sf_ret x4
  )
  ) (fun v9 =>
  sf_bnd (sf_gR 0 0 p0) fun x10 =>
  sf_bnd (sf_gR 1 0 x10) fun x11 =>
  sf_bnd (sf_rc 4 v9 (jx_Office_copyFrom v9 x11)) fun _ =>
  sf_bnd (sf_rc 0 p0 (jx_SF_accepted p0 (0 : Int32))) fun x13 =>
  sf_ret (.inl x13)
  )
  ) else (
  sf_ret (.inr ())
  )
  )
  ) (fun v14 =>
  sf_bnd (sf_rc 0 p0 (jx_SF_refused p0 (-1 : Int32))) fun x15 =>
  sf_ret x15
  )
set_option maxRecDepth 20000 in
set_option maxHeartbeats 4000000 in
theorem ok_SF_image (p0 : Option Nat) (p1 : Int32) : sf_Ok ({ cls := "SplitFares", name := "image", desc := "(I)I" } : Jvm.MethodName) prog_1_method_40_code 3 (some .int) 3 [sf_rv p0, .int p1] (jx_SF_image p0 p1) (fun r => some (.int r)) := by
  refine sf_Ok.of (env := [some (sf_rv p0), some (.int p1), none]) (plainFor_of_name (by decide)) [false, false] (fun G => ⟨pk_r, pk_i, trivial⟩) (Nat.le_of_ble_eq_true rfl) rfl (fun X => ?_)
  unfold jx_SF_image
  refine fp_iload_n (i := 1) (x := p1) dd_SF_image_0 rfl rfl (fr_pc (pc' := 1) rfl ?_)
  refine fr_or (l1 := (fun (v14 : (Unit)) => sf_p 9 [some (sf_rv p0), some (.int p1), none] [])) ?_ (fun v14 => ?_)
  · refine fr_if_lt (tgt := 9) dd_SF_image_1 rfl (fun _ => ?_) (fun _ => ?_)
    · exact fr_ret rfl
    · refine fr_pc (pc' := 4) rfl ?_
      refine fp_iload_n (i := 1) (x := p1) dd_SF_image_4 rfl rfl (fr_pc (pc' := 5) rfl ?_)
      refine fp_iconst (v := (2 : Int32)) dd_SF_image_5 (by decide) (fr_pc (pc' := 6) rfl ?_)
      refine fr_icmp_lt (tgt := 15) dd_SF_image_6 rfl (fun _ => ?_) (fun _ => ?_)
      · refine fp_aload_n (i := 0) (r := p0) dd_SF_image_15 rfl rfl (fr_pc (pc' := 16) rfl ?_)
        refine fr_gR cl_0 3 (by decide) rfl sw_318 dd_SF_image_16 (fun x3 => fr_pc (pc' := 19) rfl ?_)
        refine fp_iload_n (i := 1) (x := p1) dd_SF_image_19 rfl rfl (fr_pc (pc' := 20) rfl ?_)
        refine fr_aR (by decide) (by decide) ar_5 dd_SF_image_20 (fun x4 => fr_pc (pc' := 21) rfl ?_)
        refine fp_astore_n (i := 2) dd_SF_image_21 rfl (Nat.le_of_ble_eq_true rfl) (fun _ => c1_i rfl) (fr_to (pc' := 22) (env' := [some (sf_rv p0), some (.int p1), some (sf_rv x4)]) (stk' := []) rfl rfl rfl ?_)
        refine fp_aload_n (i := 2) (r := x4) dd_SF_image_22 rfl rfl (fr_pc (pc' := 23) rfl ?_)
        refine fr_bnd (l1 := (fun (v9 : (Option Nat)) => sf_p 41 [some (sf_rv p0), some (.int p1), some (sf_rv v9)] [])) ?_ (fun v9 => ?_)
        · refine fr_ifnonnull (tgt := 41) dd_SF_image_23 rfl (fun _ => ?_) (fun _ => ?_)
          · refine fr_pc (pc' := 26) rfl ?_
            refine fr_new cl_4 sw_313 sw_36 sw_3 dd_SF_image_26 (fun x6 => fr_pc (pc' := 29) rfl ?_)
            refine fp_dup_r dd_SF_image_29 (fr_pc (pc' := 30) rfl ?_)
            refine fr_callIN (stk := [sf_rv x6]) (As := []) (ci := 4) (by decide) rfl (ok_Office_init x6) mt_Office_init rfl rfl sn_1045 sw_38 (by decide) (Nat.le_of_ble_eq_true rfl) dd_SF_image_30 (fun u7 => fr_to (pc' := 33) (env' := [some (sf_rv p0), some (.int p1), some (sf_rv x4)]) (stk' := [sf_rv x6]) rfl rfl rfl ?_)
            refine fp_astore_n (i := 2) dd_SF_image_33 rfl (Nat.le_of_ble_eq_true rfl) (fun _ => c1_i rfl) (fr_to (pc' := 34) (env' := [some (sf_rv p0), some (.int p1), some (sf_rv x6)]) (stk' := []) rfl rfl rfl ?_)
            refine fp_aload_n (i := 0) (r := p0) dd_SF_image_34 rfl rfl (fr_pc (pc' := 35) rfl ?_)
            refine fr_gR cl_0 3 (by decide) rfl sw_318 dd_SF_image_35 (fun x8 => fr_pc (pc' := 38) rfl ?_)
            refine fp_iload_n (i := 1) (x := p1) dd_SF_image_38 rfl rfl (fr_pc (pc' := 39) rfl ?_)
            refine fp_aload_n (i := 2) (r := x6) dd_SF_image_39 rfl rfl (fr_pc (pc' := 40) rfl ?_)
            refine fr_sR cl_4 (by decide) (by decide) ar_5 dd_SF_image_40 (fr_pc (pc' := 41) rfl ?_)
            exact fr_ret rfl
          · exact fr_ret rfl
        · refine fp_aload_n (i := 2) (r := v9) dd_SF_image_41 rfl rfl (fr_pc (pc' := 42) rfl ?_)
          refine fp_aload_n (i := 0) (r := p0) dd_SF_image_42 rfl rfl (fr_pc (pc' := 43) rfl ?_)
          refine fr_gR cl_0 0 (by decide) rfl sw_315 dd_SF_image_43 (fun x10 => fr_pc (pc' := 46) rfl ?_)
          refine fr_gR cl_1 0 (by decide) rfl sw_192 dd_SF_image_46 (fun x11 => fr_pc (pc' := 49) rfl ?_)
          refine fr_callV (stk := []) (As := [sf_rv x11]) cl_4 (ok_Office_copyFrom v9 x11) mt_Office_copyFrom rfl rfl sw_1046 sw_1047 sw_1048 (by decide) (Nat.le_of_ble_eq_true rfl) dd_SF_image_49 (fun u12 => fr_to (pc' := 52) (env' := [some (sf_rv p0), some (.int p1), some (sf_rv v9)]) (stk' := []) rfl rfl rfl ?_)
          refine fp_aload_n (i := 0) (r := p0) dd_SF_image_52 rfl rfl (fr_pc (pc' := 53) rfl ?_)
          refine fp_iconst (v := (0 : Int32)) dd_SF_image_53 (by decide) (fr_pc (pc' := 54) rfl ?_)
          refine fr_callV (stk := []) (As := [.int (0 : Int32)]) cl_0 (ok_SF_accepted p0 (0 : Int32)) mt_SF_accepted rfl rfl sw_378 sw_380 sp_2 (by decide) (Nat.le_of_ble_eq_true rfl) dd_SF_image_54 (fun x13 => fr_to (pc' := 57) (env' := [some (sf_rv p0), some (.int p1), some (sf_rv v9)]) (stk' := [.int x13]) rfl rfl rfl ?_)
          exact fr_iret (v := x13) rfl rfl dd_SF_image_57
      · refine fr_pc (pc' := 9) rfl ?_
        exact fr_ret rfl
  · refine fp_aload_n (i := 0) (r := p0) dd_SF_image_9 rfl rfl (fr_pc (pc' := 10) rfl ?_)
    refine fp_iconst (v := (-1 : Int32)) dd_SF_image_10 (by decide) (fr_pc (pc' := 11) rfl ?_)
    refine fr_callV (stk := []) (As := [.int (-1 : Int32)]) cl_0 (ok_SF_refused p0 (-1 : Int32)) mt_SF_refused rfl rfl sw_374 sw_376 sp_1 (by decide) (Nat.le_of_ble_eq_true rfl) dd_SF_image_11 (fun x15 => fr_to (pc' := 14) (env' := [some (sf_rv p0), some (.int p1), none]) (stk' := [.int x15]) rfl rfl rfl ?_)
    exact fr_iret (v := x15) rfl rfl dd_SF_image_14
theorem mt_SF_back : sf_Mt ({ cls := "SplitFares", name := "back", desc := "(I)I" } : Jvm.MethodName) prog_1_method_41_code 3 (some .int) 1 := ⟨sw_1055, sw_1, ⟨by decide, by decide, by decide +kernel⟩, by decide⟩
theorem dd_SF_back_0 : decode prog_1_method_41_code 0 = .ok (.iload_n 1, 1) := by decide +kernel
theorem dd_SF_back_1 : decode prog_1_method_41_code 1 = .ok (.ifCond .lt 8, 3) := by decide +kernel
theorem dd_SF_back_4 : decode prog_1_method_41_code 4 = .ok (.iload_n 1, 1) := by decide +kernel
theorem dd_SF_back_5 : decode prog_1_method_41_code 5 = .ok (.iconst 2, 1) := by decide +kernel
theorem dd_SF_back_6 : decode prog_1_method_41_code 6 = .ok (.if_icmp .lt 9, 3) := by decide +kernel
theorem dd_SF_back_15 : decode prog_1_method_41_code 15 = .ok (.aload_n 0, 1) := by decide +kernel
theorem dd_SF_back_16 : decode prog_1_method_41_code 16 = .ok (.getfield 32, 3) := by decide +kernel
theorem dd_SF_back_19 : decode prog_1_method_41_code 19 = .ok (.iload_n 1, 1) := by decide +kernel
theorem dd_SF_back_20 : decode prog_1_method_41_code 20 = .ok (.aaload, 1) := by decide +kernel
theorem dd_SF_back_21 : decode prog_1_method_41_code 21 = .ok (.astore_n 2, 1) := by decide +kernel
theorem dd_SF_back_22 : decode prog_1_method_41_code 22 = .ok (.aload_n 2, 1) := by decide +kernel
theorem dd_SF_back_23 : decode prog_1_method_41_code 23 = .ok (.ifnonnull 10, 3) := by decide +kernel
theorem dd_SF_back_26 : decode prog_1_method_41_code 26 = .ok (.aload_n 0, 1) := by decide +kernel
theorem dd_SF_back_27 : decode prog_1_method_41_code 27 = .ok (.bipush (-2), 2) := by decide +kernel
theorem dd_SF_back_29 : decode prog_1_method_41_code 29 = .ok (.invokevirtual 119, 3) := by decide +kernel
theorem dd_SF_back_32 : decode prog_1_method_41_code 32 = .ok (.ireturn, 1) := by decide +kernel
theorem dd_SF_back_33 : decode prog_1_method_41_code 33 = .ok (.aload_n 0, 1) := by decide +kernel
theorem dd_SF_back_34 : decode prog_1_method_41_code 34 = .ok (.getfield 12, 3) := by decide +kernel
theorem dd_SF_back_37 : decode prog_1_method_41_code 37 = .ok (.getfield 67, 3) := by decide +kernel
theorem dd_SF_back_40 : decode prog_1_method_41_code 40 = .ok (.aload_n 2, 1) := by decide +kernel
theorem dd_SF_back_41 : decode prog_1_method_41_code 41 = .ok (.invokevirtual 301, 3) := by decide +kernel
theorem dd_SF_back_44 : decode prog_1_method_41_code 44 = .ok (.aload_n 0, 1) := by decide +kernel
theorem dd_SF_back_45 : decode prog_1_method_41_code 45 = .ok (.getfield 12, 3) := by decide +kernel
theorem dd_SF_back_48 : decode prog_1_method_41_code 48 = .ok (.getfield 129, 3) := by decide +kernel
theorem dd_SF_back_51 : decode prog_1_method_41_code 51 = .ok (.invokevirtual 133, 3) := by decide +kernel
theorem dd_SF_back_54 : decode prog_1_method_41_code 54 = .ok (.aload_n 0, 1) := by decide +kernel
theorem dd_SF_back_55 : decode prog_1_method_41_code 55 = .ok (.iconst 0, 1) := by decide +kernel
theorem dd_SF_back_56 : decode prog_1_method_41_code 56 = .ok (.invokevirtual 138, 3) := by decide +kernel
theorem dd_SF_back_59 : decode prog_1_method_41_code 59 = .ok (.ireturn, 1) := by decide +kernel
theorem dd_SF_back_9 : decode prog_1_method_41_code 9 = .ok (.aload_n 0, 1) := by decide +kernel
theorem dd_SF_back_10 : decode prog_1_method_41_code 10 = .ok (.iconst (-1), 1) := by decide +kernel
theorem dd_SF_back_11 : decode prog_1_method_41_code 11 = .ok (.invokevirtual 119, 3) := by decide +kernel
theorem dd_SF_back_14 : decode prog_1_method_41_code 14 = .ok (.ireturn, 1) := by decide +kernel
def jx_SF_back (p0 : Option Nat) (p1 : Int32) : sf_M (Int32) :=
  sf_or (α := Int32) (β := (Unit)) (
  if p1 < 0 then (
  sf_ret (.inr ())
  ) else (
  if p1 < (2 : Int32) then (
  sf_bnd (sf_gR 0 3 p0) fun x3 =>
  sf_bnd (sf_aR 5 x3 p1) fun x4 =>
  if x4 = none then (
  sf_bnd (sf_rc 0 p0 (jx_SF_refused p0 (-2 : Int32))) fun x6 =>
  sf_ret (.inl x6)
  ) else (
  sf_bnd (sf_gR 0 0 p0) fun x7 =>
  sf_bnd (sf_gR 1 0 x7) fun x8 =>
  sf_bnd (sf_rc 4 x8 (jx_Office_copyFrom x8 x4)) fun _ =>
  sf_bnd (sf_gR 0 0 p0) fun x10 =>
  sf_bnd (sf_gR 1 2 x10) fun x11 =>
  sf_bnd (sf_rc 2 x11 (jx_Log_clear x11)) fun _ =>
  sf_bnd (sf_rc 0 p0 (jx_SF_accepted p0 (0 : Int32))) fun x13 =>
  sf_ret (.inl x13)
  )
  ) else (
  sf_ret (.inr ())
  )
  )
  ) (fun v14 =>
  sf_bnd (sf_rc 0 p0 (jx_SF_refused p0 (-1 : Int32))) fun x15 =>
  sf_ret x15
  )
set_option maxRecDepth 20000 in
set_option maxHeartbeats 4000000 in
theorem ok_SF_back (p0 : Option Nat) (p1 : Int32) : sf_Ok ({ cls := "SplitFares", name := "back", desc := "(I)I" } : Jvm.MethodName) prog_1_method_41_code 3 (some .int) 3 [sf_rv p0, .int p1] (jx_SF_back p0 p1) (fun r => some (.int r)) := by
  refine sf_Ok.of (env := [some (sf_rv p0), some (.int p1), none]) (plainFor_of_name (by decide)) [false, false] (fun G => ⟨pk_r, pk_i, trivial⟩) (Nat.le_of_ble_eq_true rfl) rfl (fun X => ?_)
  unfold jx_SF_back
  refine fp_iload_n (i := 1) (x := p1) dd_SF_back_0 rfl rfl (fr_pc (pc' := 1) rfl ?_)
  refine fr_or (l1 := (fun (v14 : (Unit)) => sf_p 9 [some (sf_rv p0), some (.int p1), none] [])) ?_ (fun v14 => ?_)
  · refine fr_if_lt (tgt := 9) dd_SF_back_1 rfl (fun _ => ?_) (fun _ => ?_)
    · exact fr_ret rfl
    · refine fr_pc (pc' := 4) rfl ?_
      refine fp_iload_n (i := 1) (x := p1) dd_SF_back_4 rfl rfl (fr_pc (pc' := 5) rfl ?_)
      refine fp_iconst (v := (2 : Int32)) dd_SF_back_5 (by decide) (fr_pc (pc' := 6) rfl ?_)
      refine fr_icmp_lt (tgt := 15) dd_SF_back_6 rfl (fun _ => ?_) (fun _ => ?_)
      · refine fp_aload_n (i := 0) (r := p0) dd_SF_back_15 rfl rfl (fr_pc (pc' := 16) rfl ?_)
        refine fr_gR cl_0 3 (by decide) rfl sw_318 dd_SF_back_16 (fun x3 => fr_pc (pc' := 19) rfl ?_)
        refine fp_iload_n (i := 1) (x := p1) dd_SF_back_19 rfl rfl (fr_pc (pc' := 20) rfl ?_)
        refine fr_aR (by decide) (by decide) ar_5 dd_SF_back_20 (fun x4 => fr_pc (pc' := 21) rfl ?_)
        refine fp_astore_n (i := 2) dd_SF_back_21 rfl (Nat.le_of_ble_eq_true rfl) (fun _ => c1_i rfl) (fr_to (pc' := 22) (env' := [some (sf_rv p0), some (.int p1), some (sf_rv x4)]) (stk' := []) rfl rfl rfl ?_)
        refine fp_aload_n (i := 2) (r := x4) dd_SF_back_22 rfl rfl (fr_pc (pc' := 23) rfl ?_)
        refine fr_ifnonnull (tgt := 33) dd_SF_back_23 rfl (fun _ => ?_) (fun _ => ?_)
        · refine fr_pc (pc' := 26) rfl ?_
          refine fp_aload_n (i := 0) (r := p0) dd_SF_back_26 rfl rfl (fr_pc (pc' := 27) rfl ?_)
          refine fp_bipush (v := (-2 : Int32)) dd_SF_back_27 (by decide) (fr_pc (pc' := 29) rfl ?_)
          refine fr_callV (stk := []) (As := [.int (-2 : Int32)]) cl_0 (ok_SF_refused p0 (-2 : Int32)) mt_SF_refused rfl rfl sw_374 sw_376 sp_1 (by decide) (Nat.le_of_ble_eq_true rfl) dd_SF_back_29 (fun x6 => fr_to (pc' := 32) (env' := [some (sf_rv p0), some (.int p1), some (sf_rv x4)]) (stk' := [.int x6]) rfl rfl rfl ?_)
          exact fr_iret (v := x6) rfl rfl dd_SF_back_32
        · refine fp_aload_n (i := 0) (r := p0) dd_SF_back_33 rfl rfl (fr_pc (pc' := 34) rfl ?_)
          refine fr_gR cl_0 0 (by decide) rfl sw_315 dd_SF_back_34 (fun x7 => fr_pc (pc' := 37) rfl ?_)
          refine fr_gR cl_1 0 (by decide) rfl sw_192 dd_SF_back_37 (fun x8 => fr_pc (pc' := 40) rfl ?_)
          refine fp_aload_n (i := 2) (r := x4) dd_SF_back_40 rfl rfl (fr_pc (pc' := 41) rfl ?_)
          refine fr_callV (stk := []) (As := [sf_rv x4]) cl_4 (ok_Office_copyFrom x8 x4) mt_Office_copyFrom rfl rfl sw_1046 sw_1047 sw_1048 (by decide) (Nat.le_of_ble_eq_true rfl) dd_SF_back_41 (fun u9 => fr_to (pc' := 44) (env' := [some (sf_rv p0), some (.int p1), some (sf_rv x4)]) (stk' := []) rfl rfl rfl ?_)
          refine fp_aload_n (i := 0) (r := p0) dd_SF_back_44 rfl rfl (fr_pc (pc' := 45) rfl ?_)
          refine fr_gR cl_0 0 (by decide) rfl sw_315 dd_SF_back_45 (fun x10 => fr_pc (pc' := 48) rfl ?_)
          refine fr_gR cl_1 2 (by decide) rfl sw_196 dd_SF_back_48 (fun x11 => fr_pc (pc' := 51) rfl ?_)
          refine fr_callV (stk := []) (As := []) cl_2 (ok_Log_clear x11) mt_Log_clear rfl rfl sw_490 sw_491 sw_492 (by decide) (Nat.le_of_ble_eq_true rfl) dd_SF_back_51 (fun u12 => fr_to (pc' := 54) (env' := [some (sf_rv p0), some (.int p1), some (sf_rv x4)]) (stk' := []) rfl rfl rfl ?_)
          refine fp_aload_n (i := 0) (r := p0) dd_SF_back_54 rfl rfl (fr_pc (pc' := 55) rfl ?_)
          refine fp_iconst (v := (0 : Int32)) dd_SF_back_55 (by decide) (fr_pc (pc' := 56) rfl ?_)
          refine fr_callV (stk := []) (As := [.int (0 : Int32)]) cl_0 (ok_SF_accepted p0 (0 : Int32)) mt_SF_accepted rfl rfl sw_378 sw_380 sp_2 (by decide) (Nat.le_of_ble_eq_true rfl) dd_SF_back_56 (fun x13 => fr_to (pc' := 59) (env' := [some (sf_rv p0), some (.int p1), some (sf_rv x4)]) (stk' := [.int x13]) rfl rfl rfl ?_)
          exact fr_iret (v := x13) rfl rfl dd_SF_back_59
      · refine fr_pc (pc' := 9) rfl ?_
        exact fr_ret rfl
  · refine fp_aload_n (i := 0) (r := p0) dd_SF_back_9 rfl rfl (fr_pc (pc' := 10) rfl ?_)
    refine fp_iconst (v := (-1 : Int32)) dd_SF_back_10 (by decide) (fr_pc (pc' := 11) rfl ?_)
    refine fr_callV (stk := []) (As := [.int (-1 : Int32)]) cl_0 (ok_SF_refused p0 (-1 : Int32)) mt_SF_refused rfl rfl sw_374 sw_376 sp_1 (by decide) (Nat.le_of_ble_eq_true rfl) dd_SF_back_11 (fun x15 => fr_to (pc' := 14) (env' := [some (sf_rv p0), some (.int p1), none]) (stk' := [.int x15]) rfl rfl rfl ?_)
    exact fr_iret (v := x15) rfl rfl dd_SF_back_14
theorem mt_SF_count : sf_Mt ({ cls := "SplitFares", name := "count", desc := "(I)I" } : Jvm.MethodName) prog_1_method_42_code 3 (some .int) 1 := ⟨sw_1059, sw_1, ⟨by decide, by decide, by decide +kernel⟩, by decide⟩
theorem dd_SF_count_0 : decode prog_1_method_42_code 0 = .ok (.aload_n 0, 1) := by decide +kernel
theorem dd_SF_count_1 : decode prog_1_method_42_code 1 = .ok (.getfield 12, 3) := by decide +kernel
theorem dd_SF_count_4 : decode prog_1_method_42_code 4 = .ok (.getfield 67, 3) := by decide +kernel
theorem dd_SF_count_7 : decode prog_1_method_42_code 7 = .ok (.astore_n 2, 1) := by decide +kernel
theorem dd_SF_count_8 : decode prog_1_method_42_code 8 = .ok (.iload_n 1, 1) := by decide +kernel
theorem dd_SF_count_9 : decode prog_1_method_42_code 9 = .ok (.bipush 8, 2) := by decide +kernel
theorem dd_SF_count_11 : decode prog_1_method_42_code 11 = .ok (.if_icmp .lt 23, 3) := by decide +kernel
theorem dd_SF_count_14 : decode prog_1_method_42_code 14 = .ok (.iload_n 1, 1) := by decide +kernel
theorem dd_SF_count_15 : decode prog_1_method_42_code 15 = .ok (.bipush 12, 2) := by decide +kernel
theorem dd_SF_count_17 : decode prog_1_method_42_code 17 = .ok (.if_icmp .gt 17, 3) := by decide +kernel
theorem dd_SF_count_20 : decode prog_1_method_42_code 20 = .ok (.aload_n 0, 1) := by decide +kernel
theorem dd_SF_count_21 : decode prog_1_method_42_code 21 = .ok (.getfield 36, 3) := by decide +kernel
theorem dd_SF_count_24 : decode prog_1_method_42_code 24 = .ok (.getstatic 304, 3) := by decide +kernel
theorem dd_SF_count_27 : decode prog_1_method_42_code 27 = .ok (.iload_n 1, 1) := by decide +kernel
theorem dd_SF_count_28 : decode prog_1_method_42_code 28 = .ok (.bipush 8, 2) := by decide +kernel
theorem dd_SF_count_30 : decode prog_1_method_42_code 30 = .ok (.isub, 1) := by decide +kernel
theorem dd_SF_count_31 : decode prog_1_method_42_code 31 = .ok (.iaload, 1) := by decide +kernel
theorem dd_SF_count_32 : decode prog_1_method_42_code 32 = .ok (.iaload, 1) := by decide +kernel
theorem dd_SF_count_33 : decode prog_1_method_42_code 33 = .ok (.ireturn, 1) := by decide +kernel
theorem dd_SF_count_34 : decode prog_1_method_42_code 34 = .ok (.iload_n 1, 1) := by decide +kernel
theorem dd_SF_count_35 : decode prog_1_method_42_code 35 = .ok (.tableswitch 153 0 16 #[81, 86, 94, 102, 110, 115, 120, 131, 153, 153, 153, 153, 153, 139, 144, 144, 144], 81) := by decide +kernel
theorem dd_SF_count_179 : decode prog_1_method_42_code 179 = .ok (.aload_n 2, 1) := by decide +kernel
theorem dd_SF_count_180 : decode prog_1_method_42_code 180 = .ok (.iload_n 1, 1) := by decide +kernel
theorem dd_SF_count_181 : decode prog_1_method_42_code 181 = .ok (.bipush 14, 2) := by decide +kernel
theorem dd_SF_count_183 : decode prog_1_method_42_code 183 = .ok (.isub, 1) := by decide +kernel
theorem dd_SF_count_184 : decode prog_1_method_42_code 184 = .ok (.invokevirtual 122, 3) := by decide +kernel
theorem dd_SF_count_187 : decode prog_1_method_42_code 187 = .ok (.ireturn, 1) := by decide +kernel
theorem dd_SF_count_174 : decode prog_1_method_42_code 174 = .ok (.aload_n 2, 1) := by decide +kernel
theorem dd_SF_count_175 : decode prog_1_method_42_code 175 = .ok (.getfield 197, 3) := by decide +kernel
theorem dd_SF_count_178 : decode prog_1_method_42_code 178 = .ok (.ireturn, 1) := by decide +kernel
theorem dd_SF_count_188 : decode prog_1_method_42_code 188 = .ok (.iconst (-1), 1) := by decide +kernel
theorem dd_SF_count_189 : decode prog_1_method_42_code 189 = .ok (.ireturn, 1) := by decide +kernel
theorem dd_SF_count_166 : decode prog_1_method_42_code 166 = .ok (.aload_n 0, 1) := by decide +kernel
theorem dd_SF_count_167 : decode prog_1_method_42_code 167 = .ok (.getfield 19, 3) := by decide +kernel
theorem dd_SF_count_170 : decode prog_1_method_42_code 170 = .ok (.getfield 141, 3) := by decide +kernel
theorem dd_SF_count_173 : decode prog_1_method_42_code 173 = .ok (.ireturn, 1) := by decide +kernel
theorem dd_SF_count_155 : decode prog_1_method_42_code 155 = .ok (.aload_n 0, 1) := by decide +kernel
theorem dd_SF_count_156 : decode prog_1_method_42_code 156 = .ok (.getfield 12, 3) := by decide +kernel
theorem dd_SF_count_159 : decode prog_1_method_42_code 159 = .ok (.getfield 129, 3) := by decide +kernel
theorem dd_SF_count_162 : decode prog_1_method_42_code 162 = .ok (.getfield 307, 3) := by decide +kernel
theorem dd_SF_count_165 : decode prog_1_method_42_code 165 = .ok (.ireturn, 1) := by decide +kernel
theorem dd_SF_count_150 : decode prog_1_method_42_code 150 = .ok (.aload_n 2, 1) := by decide +kernel
theorem dd_SF_count_151 : decode prog_1_method_42_code 151 = .ok (.getfield 151, 3) := by decide +kernel
theorem dd_SF_count_154 : decode prog_1_method_42_code 154 = .ok (.ireturn, 1) := by decide +kernel
theorem dd_SF_count_145 : decode prog_1_method_42_code 145 = .ok (.aload_n 2, 1) := by decide +kernel
theorem dd_SF_count_146 : decode prog_1_method_42_code 146 = .ok (.getfield 262, 3) := by decide +kernel
theorem dd_SF_count_149 : decode prog_1_method_42_code 149 = .ok (.ireturn, 1) := by decide +kernel
theorem dd_SF_count_137 : decode prog_1_method_42_code 137 = .ok (.aload_n 2, 1) := by decide +kernel
theorem dd_SF_count_138 : decode prog_1_method_42_code 138 = .ok (.getfield 107, 3) := by decide +kernel
theorem dd_SF_count_141 : decode prog_1_method_42_code 141 = .ok (.invokevirtual 294, 3) := by decide +kernel
theorem dd_SF_count_144 : decode prog_1_method_42_code 144 = .ok (.ireturn, 1) := by decide +kernel
theorem dd_SF_count_129 : decode prog_1_method_42_code 129 = .ok (.aload_n 2, 1) := by decide +kernel
theorem dd_SF_count_130 : decode prog_1_method_42_code 130 = .ok (.getfield 107, 3) := by decide +kernel
theorem dd_SF_count_133 : decode prog_1_method_42_code 133 = .ok (.getfield 253, 3) := by decide +kernel
theorem dd_SF_count_136 : decode prog_1_method_42_code 136 = .ok (.ireturn, 1) := by decide +kernel
theorem dd_SF_count_121 : decode prog_1_method_42_code 121 = .ok (.aload_n 2, 1) := by decide +kernel
theorem dd_SF_count_122 : decode prog_1_method_42_code 122 = .ok (.getfield 107, 3) := by decide +kernel
theorem dd_SF_count_125 : decode prog_1_method_42_code 125 = .ok (.getfield 251, 3) := by decide +kernel
theorem dd_SF_count_128 : decode prog_1_method_42_code 128 = .ok (.ireturn, 1) := by decide +kernel
theorem dd_SF_count_116 : decode prog_1_method_42_code 116 = .ok (.aload_n 2, 1) := by decide +kernel
theorem dd_SF_count_117 : decode prog_1_method_42_code 117 = .ok (.getfield 288, 3) := by decide +kernel
theorem dd_SF_count_120 : decode prog_1_method_42_code 120 = .ok (.ireturn, 1) := by decide +kernel
def jx_SF_count (p0 : Option Nat) (p1 : Int32) : sf_M (Int32) :=
  sf_bnd (sf_gR 0 0 p0) fun x1 =>
  sf_bnd (sf_gR 1 0 x1) fun x2 =>
  sf_or (α := Int32) (β := (Unit)) (
  if p1 < (8 : Int32) then (
  sf_ret (.inr ())
  ) else (
  if (12 : Int32) < p1 then (
  sf_ret (.inr ())
  ) else (
  sf_bnd (sf_gR 0 4 p0) fun x5 =>
  sf_bnd (sf_cst [1, 2, 3, 5, 6] (p1 - (8 : Int32))) fun x6 =>
  sf_bnd (sf_aI 0 x5 x6) fun x7 =>
  sf_ret (.inl x7)
  )
  )
  ) (fun v8 =>
  if p1 = (0 : Int32) then (
  sf_bnd (sf_gI 4 1 x2) fun x9 =>
  sf_ret x9
  ) else (
  if p1 = (1 : Int32) then (
  sf_bnd (sf_gR 4 0 x2) fun x10 =>
  sf_bnd (sf_gI 5 2 x10) fun x11 =>
  sf_ret x11
  ) else (
  if p1 = (2 : Int32) then (
  sf_bnd (sf_gR 4 0 x2) fun x12 =>
  sf_bnd (sf_gI 5 1 x12) fun x13 =>
  sf_ret x13
  ) else (
  if p1 = (3 : Int32) then (
  sf_bnd (sf_gR 4 0 x2) fun x14 =>
  sf_bnd (sf_rc 5 x14 (jx_Pocket_heldInAll x14)) fun x15 =>
  sf_ret x15
  ) else (
  if p1 = (4 : Int32) then (
  sf_bnd (sf_gI 4 8 x2) fun x16 =>
  sf_ret x16
  ) else (
  if p1 = (5 : Int32) then (
  sf_bnd (sf_gI 4 5 x2) fun x17 =>
  sf_ret x17
  ) else (
  if p1 = (6 : Int32) then (
  sf_bnd (sf_gR 0 0 p0) fun x18 =>
  sf_bnd (sf_gR 1 2 x18) fun x19 =>
  sf_bnd (sf_gI 2 3 x19) fun x20 =>
  sf_ret x20
  ) else (
  if p1 = (7 : Int32) then (
  sf_bnd (sf_gR 0 1 p0) fun x21 =>
  sf_bnd (sf_gI 8 1 x21) fun x22 =>
  sf_ret x22
  ) else (
  if p1 = (8 : Int32) then (
  sf_ret (-1 : Int32)
  ) else (
  if p1 = (9 : Int32) then (
  sf_ret (-1 : Int32)
  ) else (
  if p1 = (10 : Int32) then (
  sf_ret (-1 : Int32)
  ) else (
  if p1 = (11 : Int32) then (
  sf_ret (-1 : Int32)
  ) else (
  if p1 = (12 : Int32) then (
  sf_ret (-1 : Int32)
  ) else (
  if p1 = (13 : Int32) then (
  sf_bnd (sf_gI 4 6 x2) fun x23 =>
  sf_ret x23
  ) else (
  if p1 = (14 : Int32) then (
  sf_bnd (sf_rc 4 x2 (jx_Office_term x2 (p1 - (14 : Int32)))) fun x24 =>
  sf_ret x24
  ) else (
  if p1 = (15 : Int32) then (
  sf_bnd (sf_rc 4 x2 (jx_Office_term x2 (p1 - (14 : Int32)))) fun x25 =>
  sf_ret x25
  ) else (
  if p1 = (16 : Int32) then (
  sf_bnd (sf_rc 4 x2 (jx_Office_term x2 (p1 - (14 : Int32)))) fun x26 =>
  sf_ret x26
  ) else (
  sf_ret (-1 : Int32)
  )
  )
  )
  )
  )
  )
  )
  )
  )
  )
  )
  )
  )
  )
  )
  )
  )
  )
set_option maxRecDepth 20000 in
set_option maxHeartbeats 4000000 in
theorem ok_SF_count (p0 : Option Nat) (p1 : Int32) : sf_Ok ({ cls := "SplitFares", name := "count", desc := "(I)I" } : Jvm.MethodName) prog_1_method_42_code 3 (some .int) 1 [sf_rv p0, .int p1] (jx_SF_count p0 p1) (fun r => some (.int r)) := by
  refine sf_Ok.of (env := [some (sf_rv p0), some (.int p1), none]) (plainFor_of_name (by decide)) [false, false] (fun G => ⟨pk_r, pk_i, trivial⟩) (Nat.le_of_ble_eq_true rfl) rfl (fun X => ?_)
  unfold jx_SF_count
  refine fp_aload_n (i := 0) (r := p0) dd_SF_count_0 rfl rfl (fr_pc (pc' := 1) rfl ?_)
  refine fr_gR cl_0 0 (by decide) rfl sw_315 dd_SF_count_1 (fun x1 => fr_pc (pc' := 4) rfl ?_)
  refine fr_gR cl_1 0 (by decide) rfl sw_192 dd_SF_count_4 (fun x2 => fr_pc (pc' := 7) rfl ?_)
  refine fp_astore_n (i := 2) dd_SF_count_7 rfl (Nat.le_of_ble_eq_true rfl) (fun _ => c1_i rfl) (fr_to (pc' := 8) (env' := [some (sf_rv p0), some (.int p1), some (sf_rv x2)]) (stk' := []) rfl rfl rfl ?_)
  refine fp_iload_n (i := 1) (x := p1) dd_SF_count_8 rfl rfl (fr_pc (pc' := 9) rfl ?_)
  refine fp_bipush (v := (8 : Int32)) dd_SF_count_9 (by decide) (fr_pc (pc' := 11) rfl ?_)
  refine fr_or (l1 := (fun (v8 : (Unit)) => sf_p 34 [some (sf_rv p0), some (.int p1), some (sf_rv x2)] [])) ?_ (fun v8 => ?_)
  · refine fr_icmp_lt (tgt := 34) dd_SF_count_11 rfl (fun _ => ?_) (fun _ => ?_)
    · exact fr_ret rfl
    · refine fr_pc (pc' := 14) rfl ?_
      refine fp_iload_n (i := 1) (x := p1) dd_SF_count_14 rfl rfl (fr_pc (pc' := 15) rfl ?_)
      refine fp_bipush (v := (12 : Int32)) dd_SF_count_15 (by decide) (fr_pc (pc' := 17) rfl ?_)
      refine fr_icmp_gt (tgt := 34) dd_SF_count_17 rfl (fun _ => ?_) (fun _ => ?_)
      · exact fr_ret rfl
      · refine fr_pc (pc' := 20) rfl ?_
        refine fp_aload_n (i := 0) (r := p0) dd_SF_count_20 rfl rfl (fr_pc (pc' := 21) rfl ?_)
        refine fr_gR cl_0 4 (by decide) rfl sw_319 dd_SF_count_21 (fun x5 => fr_pc (pc' := 24) rfl ?_)
        refine fp_gets1 sw_1060 dd_SF_count_24 (fr_pc (pc' := 27) rfl ?_)
        refine fp_iload_n (i := 1) (x := p1) dd_SF_count_27 rfl rfl (fr_pc (pc' := 28) rfl ?_)
        refine fp_bipush (v := (8 : Int32)) dd_SF_count_28 (by decide) (fr_pc (pc' := 30) rfl ?_)
        refine fp_isub dd_SF_count_30 (fr_pc (pc' := 31) rfl ?_)
        refine fr_cst1 dd_SF_count_31 (fun x6 => fr_pc (pc' := 32) rfl ?_)
        refine fr_aI0 dd_SF_count_32 (fun x7 => fr_pc (pc' := 33) rfl ?_)
        exact fr_iret (v := x7) rfl rfl dd_SF_count_33
  · refine fp_iload_n (i := 1) (x := p1) dd_SF_count_34 rfl rfl (fr_pc (pc' := 35) rfl ?_)
    refine fp_tsw (ts := [116, 121, 129, 137, 145, 150, 155, 166, 188, 188, 188, 188, 188, 174, 179, 179, 179]) (t0 := 188) (cs := [((0 : Int32), 116), ((1 : Int32), 121), ((2 : Int32), 129), ((3 : Int32), 137), ((4 : Int32), 145), ((5 : Int32), 150), ((6 : Int32), 155), ((7 : Int32), 166), ((8 : Int32), 188), ((9 : Int32), 188), ((10 : Int32), 188), ((11 : Int32), 188), ((12 : Int32), 188), ((13 : Int32), 174), ((14 : Int32), 179), ((15 : Int32), 179), ((16 : Int32), 179)]) dd_SF_count_35 (by decide) rfl ?_
    refine fr_sw (fun _ => ?_) (fun _ => ?_)
    · refine fp_aload_n (i := 2) (r := x2) dd_SF_count_116 rfl rfl (fr_pc (pc' := 117) rfl ?_)
      refine fr_gI cl_4 1 (by decide) rfl sw_91 dd_SF_count_117 (fun x9 => fr_pc (pc' := 120) rfl ?_)
      exact fr_iret (v := x9) rfl rfl dd_SF_count_120
    · refine fr_sw (fun _ => ?_) (fun _ => ?_)
      · refine fp_aload_n (i := 2) (r := x2) dd_SF_count_121 rfl rfl (fr_pc (pc' := 122) rfl ?_)
        refine fr_gR cl_4 0 (by decide) rfl sw_88 dd_SF_count_122 (fun x10 => fr_pc (pc' := 125) rfl ?_)
        refine fr_gI cl_5 2 (by decide) rfl sw_53 dd_SF_count_125 (fun x11 => fr_pc (pc' := 128) rfl ?_)
        exact fr_iret (v := x11) rfl rfl dd_SF_count_128
      · refine fr_sw (fun _ => ?_) (fun _ => ?_)
        · refine fp_aload_n (i := 2) (r := x2) dd_SF_count_129 rfl rfl (fr_pc (pc' := 130) rfl ?_)
          refine fr_gR cl_4 0 (by decide) rfl sw_88 dd_SF_count_130 (fun x12 => fr_pc (pc' := 133) rfl ?_)
          refine fr_gI cl_5 1 (by decide) rfl sw_50 dd_SF_count_133 (fun x13 => fr_pc (pc' := 136) rfl ?_)
          exact fr_iret (v := x13) rfl rfl dd_SF_count_136
        · refine fr_sw (fun _ => ?_) (fun _ => ?_)
          · refine fp_aload_n (i := 2) (r := x2) dd_SF_count_137 rfl rfl (fr_pc (pc' := 138) rfl ?_)
            refine fr_gR cl_4 0 (by decide) rfl sw_88 dd_SF_count_138 (fun x14 => fr_pc (pc' := 141) rfl ?_)
            refine fr_callV (stk := []) (As := []) cl_5 (ok_Pocket_heldInAll x14) mt_Pocket_heldInAll rfl rfl sw_1036 sw_766 sw_767 (by decide) (Nat.le_of_ble_eq_true rfl) dd_SF_count_141 (fun x15 => fr_to (pc' := 144) (env' := [some (sf_rv p0), some (.int p1), some (sf_rv x2)]) (stk' := [.int x15]) rfl rfl rfl ?_)
            exact fr_iret (v := x15) rfl rfl dd_SF_count_144
          · refine fr_sw (fun _ => ?_) (fun _ => ?_)
            · refine fp_aload_n (i := 2) (r := x2) dd_SF_count_145 rfl rfl (fr_pc (pc' := 146) rfl ?_)
              refine fr_gI cl_4 8 (by decide) rfl sw_105 dd_SF_count_146 (fun x16 => fr_pc (pc' := 149) rfl ?_)
              exact fr_iret (v := x16) rfl rfl dd_SF_count_149
            · refine fr_sw (fun _ => ?_) (fun _ => ?_)
              · refine fp_aload_n (i := 2) (r := x2) dd_SF_count_150 rfl rfl (fr_pc (pc' := 151) rfl ?_)
                refine fr_gI cl_4 5 (by decide) rfl sw_100 dd_SF_count_151 (fun x17 => fr_pc (pc' := 154) rfl ?_)
                exact fr_iret (v := x17) rfl rfl dd_SF_count_154
              · refine fr_sw (fun _ => ?_) (fun _ => ?_)
                · refine fp_aload_n (i := 0) (r := p0) dd_SF_count_155 rfl rfl (fr_pc (pc' := 156) rfl ?_)
                  refine fr_gR cl_0 0 (by decide) rfl sw_315 dd_SF_count_156 (fun x18 => fr_pc (pc' := 159) rfl ?_)
                  refine fr_gR cl_1 2 (by decide) rfl sw_196 dd_SF_count_159 (fun x19 => fr_pc (pc' := 162) rfl ?_)
                  refine fr_gI cl_2 3 (by decide) rfl sw_177 dd_SF_count_162 (fun x20 => fr_pc (pc' := 165) rfl ?_)
                  exact fr_iret (v := x20) rfl rfl dd_SF_count_165
                · refine fr_sw (fun _ => ?_) (fun _ => ?_)
                  · refine fp_aload_n (i := 0) (r := p0) dd_SF_count_166 rfl rfl (fr_pc (pc' := 167) rfl ?_)
                    refine fr_gR cl_0 1 (by decide) rfl sw_316 dd_SF_count_167 (fun x21 => fr_pc (pc' := 170) rfl ?_)
                    refine fr_gI cl_8 1 (by decide) rfl sw_229 dd_SF_count_170 (fun x22 => fr_pc (pc' := 173) rfl ?_)
                    exact fr_iret (v := x22) rfl rfl dd_SF_count_173
                  · refine fr_sw (fun _ => ?_) (fun _ => ?_)
                    · refine fp_iconst (v := (-1 : Int32)) dd_SF_count_188 (by decide) (fr_pc (pc' := 189) rfl ?_)
                      exact fr_iret (v := (-1 : Int32)) rfl rfl dd_SF_count_189
                    · refine fr_sw (fun _ => ?_) (fun _ => ?_)
                      · refine fp_iconst (v := (-1 : Int32)) dd_SF_count_188 (by decide) (fr_pc (pc' := 189) rfl ?_)
                        exact fr_iret (v := (-1 : Int32)) rfl rfl dd_SF_count_189
                      · refine fr_sw (fun _ => ?_) (fun _ => ?_)
                        · refine fp_iconst (v := (-1 : Int32)) dd_SF_count_188 (by decide) (fr_pc (pc' := 189) rfl ?_)
                          exact fr_iret (v := (-1 : Int32)) rfl rfl dd_SF_count_189
                        · refine fr_sw (fun _ => ?_) (fun _ => ?_)
                          · refine fp_iconst (v := (-1 : Int32)) dd_SF_count_188 (by decide) (fr_pc (pc' := 189) rfl ?_)
                            exact fr_iret (v := (-1 : Int32)) rfl rfl dd_SF_count_189
                          · refine fr_sw (fun _ => ?_) (fun _ => ?_)
                            · refine fp_iconst (v := (-1 : Int32)) dd_SF_count_188 (by decide) (fr_pc (pc' := 189) rfl ?_)
                              exact fr_iret (v := (-1 : Int32)) rfl rfl dd_SF_count_189
                            · refine fr_sw (fun _ => ?_) (fun _ => ?_)
                              · refine fp_aload_n (i := 2) (r := x2) dd_SF_count_174 rfl rfl (fr_pc (pc' := 175) rfl ?_)
                                refine fr_gI cl_4 6 (by decide) rfl sw_102 dd_SF_count_175 (fun x23 => fr_pc (pc' := 178) rfl ?_)
                                exact fr_iret (v := x23) rfl rfl dd_SF_count_178
                              · refine fr_sw (fun _ => ?_) (fun _ => ?_)
                                · refine fp_aload_n (i := 2) (r := x2) dd_SF_count_179 rfl rfl (fr_pc (pc' := 180) rfl ?_)
                                  refine fp_iload_n (i := 1) (x := p1) dd_SF_count_180 rfl rfl (fr_pc (pc' := 181) rfl ?_)
                                  refine fp_bipush (v := (14 : Int32)) dd_SF_count_181 (by decide) (fr_pc (pc' := 183) rfl ?_)
                                  refine fp_isub dd_SF_count_183 (fr_pc (pc' := 184) rfl ?_)
                                  refine fr_callV (stk := []) (As := [.int (p1 - (14 : Int32))]) cl_4 (ok_Office_term x2 (p1 - (14 : Int32))) mt_Office_term rfl rfl sw_482 sw_483 sw_484 (by decide) (Nat.le_of_ble_eq_true rfl) dd_SF_count_184 (fun x24 => fr_to (pc' := 187) (env' := [some (sf_rv p0), some (.int p1), some (sf_rv x2)]) (stk' := [.int x24]) rfl rfl rfl ?_)
                                  exact fr_iret (v := x24) rfl rfl dd_SF_count_187
                                · refine fr_sw (fun _ => ?_) (fun _ => ?_)
                                  · refine fp_aload_n (i := 2) (r := x2) dd_SF_count_179 rfl rfl (fr_pc (pc' := 180) rfl ?_)
                                    refine fp_iload_n (i := 1) (x := p1) dd_SF_count_180 rfl rfl (fr_pc (pc' := 181) rfl ?_)
                                    refine fp_bipush (v := (14 : Int32)) dd_SF_count_181 (by decide) (fr_pc (pc' := 183) rfl ?_)
                                    refine fp_isub dd_SF_count_183 (fr_pc (pc' := 184) rfl ?_)
                                    refine fr_callV (stk := []) (As := [.int (p1 - (14 : Int32))]) cl_4 (ok_Office_term x2 (p1 - (14 : Int32))) mt_Office_term rfl rfl sw_482 sw_483 sw_484 (by decide) (Nat.le_of_ble_eq_true rfl) dd_SF_count_184 (fun x25 => fr_to (pc' := 187) (env' := [some (sf_rv p0), some (.int p1), some (sf_rv x2)]) (stk' := [.int x25]) rfl rfl rfl ?_)
                                    exact fr_iret (v := x25) rfl rfl dd_SF_count_187
                                  · refine fr_sw (fun _ => ?_) (fun _ => ?_)
                                    · refine fp_aload_n (i := 2) (r := x2) dd_SF_count_179 rfl rfl (fr_pc (pc' := 180) rfl ?_)
                                      refine fp_iload_n (i := 1) (x := p1) dd_SF_count_180 rfl rfl (fr_pc (pc' := 181) rfl ?_)
                                      refine fp_bipush (v := (14 : Int32)) dd_SF_count_181 (by decide) (fr_pc (pc' := 183) rfl ?_)
                                      refine fp_isub dd_SF_count_183 (fr_pc (pc' := 184) rfl ?_)
                                      refine fr_callV (stk := []) (As := [.int (p1 - (14 : Int32))]) cl_4 (ok_Office_term x2 (p1 - (14 : Int32))) mt_Office_term rfl rfl sw_482 sw_483 sw_484 (by decide) (Nat.le_of_ble_eq_true rfl) dd_SF_count_184 (fun x26 => fr_to (pc' := 187) (env' := [some (sf_rv p0), some (.int p1), some (sf_rv x2)]) (stk' := [.int x26]) rfl rfl rfl ?_)
                                      exact fr_iret (v := x26) rfl rfl dd_SF_count_187
                                    · refine fr_pc (pc' := 188) rfl ?_
                                      refine fp_iconst (v := (-1 : Int32)) dd_SF_count_188 (by decide) (fr_pc (pc' := 189) rfl ?_)
                                      exact fr_iret (v := (-1 : Int32)) rfl rfl dd_SF_count_189
theorem mt_SF_status : sf_Mt ({ cls := "SplitFares", name := "status", desc := "()I" } : Jvm.MethodName) prog_1_method_43_code 1 (some .int) 0 := ⟨sw_1065, sw_1, ⟨by decide, by decide, by decide +kernel⟩, by decide⟩
theorem dd_SF_status_0 : decode prog_1_method_43_code 0 = .ok (.aload_n 0, 1) := by decide +kernel
theorem dd_SF_status_1 : decode prog_1_method_43_code 1 = .ok (.getfield 64, 3) := by decide +kernel
theorem dd_SF_status_4 : decode prog_1_method_43_code 4 = .ok (.ireturn, 1) := by decide +kernel
def jx_SF_status (p0 : Option Nat) : sf_M (Int32) :=
  sf_bnd (sf_gI 0 12 p0) fun x1 =>
  sf_ret x1
set_option maxRecDepth 20000 in
set_option maxHeartbeats 4000000 in
theorem ok_SF_status (p0 : Option Nat) : sf_Ok ({ cls := "SplitFares", name := "status", desc := "()I" } : Jvm.MethodName) prog_1_method_43_code 1 (some .int) 0 [sf_rv p0] (jx_SF_status p0) (fun r => some (.int r)) := by
  refine sf_Ok.of (env := [some (sf_rv p0)]) (plainFor_of_name (by decide)) [false] (fun G => ⟨pk_r, trivial⟩) (Nat.le_of_ble_eq_true rfl) rfl (fun X => ?_)
  unfold jx_SF_status
  refine fp_aload_n (i := 0) (r := p0) dd_SF_status_0 rfl rfl (fr_pc (pc' := 1) rfl ?_)
  refine fr_gI cl_0 12 (by decide) rfl sw_327 dd_SF_status_1 (fun x1 => fr_pc (pc' := 4) rfl ?_)
  exact fr_iret (v := x1) rfl rfl dd_SF_status_4
