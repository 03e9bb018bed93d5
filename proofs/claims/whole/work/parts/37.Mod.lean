/-! SplitFaresModel: its methods as plain functions, and that the bytecode runs them (printed by program). -/
theorem mt_Mo_barredFrom : sf_Mt ({ cls := "SplitFaresModel", name := "barredFrom", desc := "(IIII)Z" } : Jvm.MethodName) prog_13_method_75_code 5 (some .boolean) 4 := ⟨sw_1507, sw_12, ⟨by decide, by decide, by decide +kernel⟩, by decide⟩
theorem dd_Mo_barredFrom_0 : decode prog_13_method_75_code 0 = .ok (.aload_n 0, 1) := by decide +kernel
theorem dd_Mo_barredFrom_1 : decode prog_13_method_75_code 1 = .ok (.iload_n 2, 1) := by decide +kernel
theorem dd_Mo_barredFrom_2 : decode prog_13_method_75_code 2 = .ok (.iload_n 3, 1) := by decide +kernel
theorem dd_Mo_barredFrom_3 : decode prog_13_method_75_code 3 = .ok (.iload 4, 2) := by decide +kernel
theorem dd_Mo_barredFrom_5 : decode prog_13_method_75_code 5 = .ok (.aload_n 0, 1) := by decide +kernel
theorem dd_Mo_barredFrom_6 : decode prog_13_method_75_code 6 = .ok (.getfield 32, 3) := by decide +kernel
theorem dd_Mo_barredFrom_9 : decode prog_13_method_75_code 9 = .ok (.sipush 207, 3) := by decide +kernel
theorem dd_Mo_barredFrom_12 : decode prog_13_method_75_code 12 = .ok (.iload_n 1, 1) := by decide +kernel
theorem dd_Mo_barredFrom_13 : decode prog_13_method_75_code 13 = .ok (.iadd, 1) := by decide +kernel
theorem dd_Mo_barredFrom_14 : decode prog_13_method_75_code 14 = .ok (.iaload, 1) := by decide +kernel
theorem dd_Mo_barredFrom_15 : decode prog_13_method_75_code 15 = .ok (.invokevirtual 328, 3) := by decide +kernel
theorem dd_Mo_barredFrom_18 : decode prog_13_method_75_code 18 = .ok (.aload_n 0, 1) := by decide +kernel
theorem dd_Mo_barredFrom_19 : decode prog_13_method_75_code 19 = .ok (.iconst 2, 1) := by decide +kernel
theorem dd_Mo_barredFrom_20 : decode prog_13_method_75_code 20 = .ok (.iconst 0, 1) := by decide +kernel
theorem dd_Mo_barredFrom_21 : decode prog_13_method_75_code 21 = .ok (.invokevirtual 332, 3) := by decide +kernel
theorem dd_Mo_barredFrom_24 : decode prog_13_method_75_code 24 = .ok (.iconst 1, 1) := by decide +kernel
theorem dd_Mo_barredFrom_25 : decode prog_13_method_75_code 25 = .ok (.if_icmp .ne 7, 3) := by decide +kernel
theorem dd_Mo_barredFrom_28 : decode prog_13_method_75_code 28 = .ok (.iconst 1, 1) := by decide +kernel
theorem dd_Mo_barredFrom_29 : decode prog_13_method_75_code 29 = .ok (.goto 4, 3) := by decide +kernel
theorem dd_Mo_barredFrom_32 : decode prog_13_method_75_code 32 = .ok (.iconst 0, 1) := by decide +kernel
theorem dd_Mo_barredFrom_33 : decode prog_13_method_75_code 33 = .ok (.ireturn, 1) := by decide +kernel
def jx_Mo_barredFrom (p0 : Option Nat) (p1 : Int32) (p2 : Int32) (p3 : Int32) (p4 : Int32) : sf_M (Int32) :=
  sf_bnd (sf_gR 11 2 p0) fun x1 =>
  sf_bnd (sf_aI 0 x1 ((207 : Int32) + p1)) fun x2 =>
  sf_bnd (sf_rc 11 p0 (jx_Mo_setsAsked p0 p2 p3 p4 x2)) fun _ =>
  sf_bnd (sf_rc 11 p0 (jx_Mo_tells p0 (2 : Int32) (0 : Int32))) fun x4 =>
  if x4 = (1 : Int32) then (
  sf_ret (1 : Int32)
  ) else (
  sf_ret (0 : Int32)
  )
set_option maxRecDepth 20000 in
set_option maxHeartbeats 4000000 in
theorem ok_Mo_barredFrom (p0 : Option Nat) (p1 : Int32) (p2 : Int32) (p3 : Int32) (p4 : Int32) : sf_Ok ({ cls := "SplitFaresModel", name := "barredFrom", desc := "(IIII)Z" } : Jvm.MethodName) prog_13_method_75_code 5 (some .boolean) 206 [sf_rv p0, .int p1, .int p2, .int p3, .int p4] (jx_Mo_barredFrom p0 p1 p2 p3 p4) (fun r => some (.int r)) := by
  refine sf_Ok.of (env := [some (sf_rv p0), some (.int p1), some (.int p2), some (.int p3), some (.int p4)]) (plainFor_of_name (by decide)) [false, false, false, false, false] (fun G => ⟨pk_r, pk_i, pk_i, pk_i, pk_i, trivial⟩) (Nat.le_of_ble_eq_true rfl) rfl (fun X => ?_)
  unfold jx_Mo_barredFrom
  refine fp_aload_n (i := 0) (r := p0) dd_Mo_barredFrom_0 rfl rfl (fr_pc (pc' := 1) rfl ?_)
  refine fp_iload_n (i := 2) (x := p2) dd_Mo_barredFrom_1 rfl rfl (fr_pc (pc' := 2) rfl ?_)
  refine fp_iload_n (i := 3) (x := p3) dd_Mo_barredFrom_2 rfl rfl (fr_pc (pc' := 3) rfl ?_)
  refine fp_iload (i := 4) (x := p4) dd_Mo_barredFrom_3 rfl (fr_pc (pc' := 5) rfl ?_)
  refine fp_aload_n (i := 0) (r := p0) dd_Mo_barredFrom_5 rfl rfl (fr_pc (pc' := 6) rfl ?_)
  refine fr_gR cl_11 2 (by decide) rfl sw_1074 dd_Mo_barredFrom_6 (fun x1 => fr_pc (pc' := 9) rfl ?_)
  refine fp_sipush (v := (207 : Int32)) dd_Mo_barredFrom_9 (by decide) (fr_pc (pc' := 12) rfl ?_)
  refine fp_iload_n (i := 1) (x := p1) dd_Mo_barredFrom_12 rfl rfl (fr_pc (pc' := 13) rfl ?_)
  refine fp_iadd dd_Mo_barredFrom_13 (fr_pc (pc' := 14) rfl ?_)
  refine fr_aI0 dd_Mo_barredFrom_14 (fun x2 => fr_pc (pc' := 15) rfl ?_)
  refine fr_callV (stk := []) (As := [.int p2, .int p3, .int p4, .int x2]) cl_11 (ok_Mo_setsAsked p0 p2 p3 p4 x2) mt_Mo_setsAsked rfl rfl sw_1434 sw_1436 sp_54 (by decide) (Nat.le_of_ble_eq_true rfl) dd_Mo_barredFrom_15 (fun u3 => fr_to (pc' := 18) (env' := [some (sf_rv p0), some (.int p1), some (.int p2), some (.int p3), some (.int p4)]) (stk' := []) rfl rfl rfl ?_)
  refine fp_aload_n (i := 0) (r := p0) dd_Mo_barredFrom_18 rfl rfl (fr_pc (pc' := 19) rfl ?_)
  refine fp_iconst (v := (2 : Int32)) dd_Mo_barredFrom_19 (by decide) (fr_pc (pc' := 20) rfl ?_)
  refine fp_iconst (v := (0 : Int32)) dd_Mo_barredFrom_20 (by decide) (fr_pc (pc' := 21) rfl ?_)
  refine fr_callV (stk := []) (As := [.int (2 : Int32), .int (0 : Int32)]) cl_11 (ok_Mo_tells p0 (2 : Int32) (0 : Int32)) mt_Mo_tells rfl rfl sw_1441 sw_1443 sp_55 (by decide) (Nat.le_of_ble_eq_true rfl) dd_Mo_barredFrom_21 (fun x4 => fr_to (pc' := 24) (env' := [some (sf_rv p0), some (.int p1), some (.int p2), some (.int p3), some (.int p4)]) (stk' := [.int x4]) rfl rfl rfl ?_)
  refine fp_iconst (v := (1 : Int32)) dd_Mo_barredFrom_24 (by decide) (fr_pc (pc' := 25) rfl ?_)
  refine fr_icmp_ne (tgt := 32) dd_Mo_barredFrom_25 rfl (fun _ => ?_) (fun _ => ?_)
  · refine fr_pc (pc' := 28) rfl ?_
    refine fp_iconst (v := (1 : Int32)) dd_Mo_barredFrom_28 (by decide) (fr_pc (pc' := 29) rfl ?_)
    refine fp_goto (tgt := 33) dd_Mo_barredFrom_29 rfl ?_
    exact fr_zret0 (v := (1 : Int32)) (Or.inr rfl) rfl rfl dd_Mo_barredFrom_33
  · refine fp_iconst (v := (0 : Int32)) dd_Mo_barredFrom_32 (by decide) (fr_pc (pc' := 33) rfl ?_)
    exact fr_zret0 (v := (0 : Int32)) (Or.inl rfl) rfl rfl dd_Mo_barredFrom_33
theorem mt_Mo_ticketBarred : sf_Mt ({ cls := "SplitFaresModel", name := "ticketBarred", desc := "(IIII)Z" } : Jvm.MethodName) prog_13_method_76_code 5 (some .boolean) 4 := ⟨sw_1663, sw_12, ⟨by decide, by decide, by decide +kernel⟩, by decide⟩
theorem dd_Mo_ticketBarred_0 : decode prog_13_method_76_code 0 = .ok (.iload_n 2, 1) := by decide +kernel
theorem dd_Mo_ticketBarred_1 : decode prog_13_method_76_code 1 = .ok (.iconst 2, 1) := by decide +kernel
theorem dd_Mo_ticketBarred_2 : decode prog_13_method_76_code 2 = .ok (.if_icmp .ne 15, 3) := by decide +kernel
theorem dd_Mo_ticketBarred_5 : decode prog_13_method_76_code 5 = .ok (.aload_n 0, 1) := by decide +kernel
theorem dd_Mo_ticketBarred_6 : decode prog_13_method_76_code 6 = .ok (.iload_n 1, 1) := by decide +kernel
theorem dd_Mo_ticketBarred_7 : decode prog_13_method_76_code 7 = .ok (.iconst 1, 1) := by decide +kernel
theorem dd_Mo_ticketBarred_8 : decode prog_13_method_76_code 8 = .ok (.iload 4, 2) := by decide +kernel
theorem dd_Mo_ticketBarred_10 : decode prog_13_method_76_code 10 = .ok (.iload_n 3, 1) := by decide +kernel
theorem dd_Mo_ticketBarred_11 : decode prog_13_method_76_code 11 = .ok (.invokevirtual 335, 3) := by decide +kernel
theorem dd_Mo_ticketBarred_14 : decode prog_13_method_76_code 14 = .ok (.goto 12, 3) := by decide +kernel
theorem dd_Mo_ticketBarred_17 : decode prog_13_method_76_code 17 = .ok (.aload_n 0, 1) := by decide +kernel
theorem dd_Mo_ticketBarred_18 : decode prog_13_method_76_code 18 = .ok (.iload_n 1, 1) := by decide +kernel
theorem dd_Mo_ticketBarred_19 : decode prog_13_method_76_code 19 = .ok (.iload_n 2, 1) := by decide +kernel
theorem dd_Mo_ticketBarred_20 : decode prog_13_method_76_code 20 = .ok (.iload_n 3, 1) := by decide +kernel
theorem dd_Mo_ticketBarred_21 : decode prog_13_method_76_code 21 = .ok (.iload 4, 2) := by decide +kernel
theorem dd_Mo_ticketBarred_23 : decode prog_13_method_76_code 23 = .ok (.invokevirtual 335, 3) := by decide +kernel
theorem dd_Mo_ticketBarred_26 : decode prog_13_method_76_code 26 = .ok (.ireturn, 1) := by decide +kernel
def jx_Mo_ticketBarred (p0 : Option Nat) (p1 : Int32) (p2 : Int32) (p3 : Int32) (p4 : Int32) : sf_M (Int32) :=
  if p2 = (2 : Int32) then (
  sf_bnd (sf_rc 11 p0 (jx_Mo_barredFrom p0 p1 (1 : Int32) p4 p3)) fun x2 =>
  sf_bnd (sf_rz x2) fun x3 =>
  sf_ret x3
  ) else (
  sf_bnd (sf_rc 11 p0 (jx_Mo_barredFrom p0 p1 p2 p3 p4)) fun x4 =>
  sf_bnd (sf_rz x4) fun x5 =>
  sf_ret x5
  )
set_option maxRecDepth 20000 in
set_option maxHeartbeats 4000000 in
theorem ok_Mo_ticketBarred (p0 : Option Nat) (p1 : Int32) (p2 : Int32) (p3 : Int32) (p4 : Int32) : sf_Ok ({ cls := "SplitFaresModel", name := "ticketBarred", desc := "(IIII)Z" } : Jvm.MethodName) prog_13_method_76_code 5 (some .boolean) 207 [sf_rv p0, .int p1, .int p2, .int p3, .int p4] (jx_Mo_ticketBarred p0 p1 p2 p3 p4) (fun r => some (.int r)) := by
  refine sf_Ok.of (env := [some (sf_rv p0), some (.int p1), some (.int p2), some (.int p3), some (.int p4)]) (plainFor_of_name (by decide)) [false, false, false, false, false] (fun G => ⟨pk_r, pk_i, pk_i, pk_i, pk_i, trivial⟩) (Nat.le_of_ble_eq_true rfl) rfl (fun X => ?_)
  unfold jx_Mo_ticketBarred
  refine fp_iload_n (i := 2) (x := p2) dd_Mo_ticketBarred_0 rfl rfl (fr_pc (pc' := 1) rfl ?_)
  refine fp_iconst (v := (2 : Int32)) dd_Mo_ticketBarred_1 (by decide) (fr_pc (pc' := 2) rfl ?_)
  refine fr_icmp_ne (tgt := 17) dd_Mo_ticketBarred_2 rfl (fun _ => ?_) (fun _ => ?_)
  · refine fr_pc (pc' := 5) rfl ?_
    refine fp_aload_n (i := 0) (r := p0) dd_Mo_ticketBarred_5 rfl rfl (fr_pc (pc' := 6) rfl ?_)
    refine fp_iload_n (i := 1) (x := p1) dd_Mo_ticketBarred_6 rfl rfl (fr_pc (pc' := 7) rfl ?_)
    refine fp_iconst (v := (1 : Int32)) dd_Mo_ticketBarred_7 (by decide) (fr_pc (pc' := 8) rfl ?_)
    refine fp_iload (i := 4) (x := p4) dd_Mo_ticketBarred_8 rfl (fr_pc (pc' := 10) rfl ?_)
    refine fp_iload_n (i := 3) (x := p3) dd_Mo_ticketBarred_10 rfl rfl (fr_pc (pc' := 11) rfl ?_)
    refine fr_callV (stk := []) (As := [.int p1, .int (1 : Int32), .int p4, .int p3]) cl_11 (ok_Mo_barredFrom p0 p1 (1 : Int32) p4 p3) mt_Mo_barredFrom rfl rfl sw_1504 sw_1506 sp_69 (by decide) (Nat.le_of_ble_eq_true rfl) dd_Mo_ticketBarred_11 (fun x2 => fr_to (pc' := 14) (env' := [some (sf_rv p0), some (.int p1), some (.int p2), some (.int p3), some (.int p4)]) (stk' := [.int x2]) rfl rfl rfl ?_)
    refine fp_goto (tgt := 26) dd_Mo_ticketBarred_14 rfl ?_
    exact fr_zret (r := fun x3 => x3) (fun _ => rfl) rfl dd_Mo_ticketBarred_26
  · refine fp_aload_n (i := 0) (r := p0) dd_Mo_ticketBarred_17 rfl rfl (fr_pc (pc' := 18) rfl ?_)
    refine fp_iload_n (i := 1) (x := p1) dd_Mo_ticketBarred_18 rfl rfl (fr_pc (pc' := 19) rfl ?_)
    refine fp_iload_n (i := 2) (x := p2) dd_Mo_ticketBarred_19 rfl rfl (fr_pc (pc' := 20) rfl ?_)
    refine fp_iload_n (i := 3) (x := p3) dd_Mo_ticketBarred_20 rfl rfl (fr_pc (pc' := 21) rfl ?_)
    refine fp_iload (i := 4) (x := p4) dd_Mo_ticketBarred_21 rfl (fr_pc (pc' := 23) rfl ?_)
    refine fr_callV (stk := []) (As := [.int p1, .int p2, .int p3, .int p4]) cl_11 (ok_Mo_barredFrom p0 p1 p2 p3 p4) mt_Mo_barredFrom rfl rfl sw_1504 sw_1506 sp_69 (by decide) (Nat.le_of_ble_eq_true rfl) dd_Mo_ticketBarred_23 (fun x4 => fr_to (pc' := 26) (env' := [some (sf_rv p0), some (.int p1), some (.int p2), some (.int p3), some (.int p4)]) (stk' := [.int x4]) rfl rfl rfl ?_)
    exact fr_zret (r := fun x5 => x5) (fun _ => rfl) rfl dd_Mo_ticketBarred_26
theorem mt_Mo_price : sf_Mt ({ cls := "SplitFaresModel", name := "price", desc := "(III)I" } : Jvm.MethodName) prog_13_method_77_code 4 (some .int) 3 := ⟨sw_1429, sw_12, ⟨by decide, by decide, by decide +kernel⟩, by decide⟩
theorem dd_Mo_price_0 : decode prog_13_method_77_code 0 = .ok (.iload_n 1, 1) := by decide +kernel
theorem dd_Mo_price_1 : decode prog_13_method_77_code 1 = .ok (.iconst 0, 1) := by decide +kernel
theorem dd_Mo_price_2 : decode prog_13_method_77_code 2 = .ok (.iconst 1, 1) := by decide +kernel
theorem dd_Mo_price_3 : decode prog_13_method_77_code 3 = .ok (.invokestatic 18, 3) := by decide +kernel
theorem dd_Mo_price_6 : decode prog_13_method_77_code 6 = .ok (.ifCond .eq 21, 3) := by decide +kernel
theorem dd_Mo_price_9 : decode prog_13_method_77_code 9 = .ok (.iload_n 2, 1) := by decide +kernel
theorem dd_Mo_price_10 : decode prog_13_method_77_code 10 = .ok (.iload_n 3, 1) := by decide +kernel
theorem dd_Mo_price_11 : decode prog_13_method_77_code 11 = .ok (.invokestatic 139, 3) := by decide +kernel
theorem dd_Mo_price_14 : decode prog_13_method_77_code 14 = .ok (.ifCond .eq 13, 3) := by decide +kernel
theorem dd_Mo_price_17 : decode prog_13_method_77_code 17 = .ok (.aload_n 0, 1) := by decide +kernel
theorem dd_Mo_price_18 : decode prog_13_method_77_code 18 = .ok (.iload_n 1, 1) := by decide +kernel
theorem dd_Mo_price_19 : decode prog_13_method_77_code 19 = .ok (.iload_n 2, 1) := by decide +kernel
theorem dd_Mo_price_20 : decode prog_13_method_77_code 20 = .ok (.iload_n 3, 1) := by decide +kernel
theorem dd_Mo_price_21 : decode prog_13_method_77_code 21 = .ok (.invokevirtual 339, 3) := by decide +kernel
theorem dd_Mo_price_24 : decode prog_13_method_77_code 24 = .ok (.goto 4, 3) := by decide +kernel
theorem dd_Mo_price_27 : decode prog_13_method_77_code 27 = .ok (.iconst (-1), 1) := by decide +kernel
theorem dd_Mo_price_28 : decode prog_13_method_77_code 28 = .ok (.ireturn, 1) := by decide +kernel
def jx_Mo_price (p0 : Option Nat) (p1 : Int32) (p2 : Int32) (p3 : Int32) : sf_M (Int32) :=
  sf_bnd (jx_Mo_lies p1 (0 : Int32) (1 : Int32)) fun x1 =>
  if x1 = 0 then (
  sf_ret (-1 : Int32)
  ) else (
  sf_bnd (jx_Mo_areTwo p2 p3) fun x3 =>
  if x3 = 0 then (
  sf_ret (-1 : Int32)
  ) else (
  sf_bnd (sf_rc 11 p0 (jx_Mo_costOf p0 p1 p2 p3)) fun x5 =>
  sf_ret x5
  )
  )
set_option maxRecDepth 20000 in
set_option maxHeartbeats 4000000 in
theorem ok_Mo_price (p0 : Option Nat) (p1 : Int32) (p2 : Int32) (p3 : Int32) : sf_Ok ({ cls := "SplitFaresModel", name := "price", desc := "(III)I" } : Jvm.MethodName) prog_13_method_77_code 4 (some .int) 207 [sf_rv p0, .int p1, .int p2, .int p3] (jx_Mo_price p0 p1 p2 p3) (fun r => some (.int r)) := by
  refine sf_Ok.of (env := [some (sf_rv p0), some (.int p1), some (.int p2), some (.int p3)]) (plainFor_of_name (by decide)) [false, false, false, false] (fun G => ⟨pk_r, pk_i, pk_i, pk_i, trivial⟩) (Nat.le_of_ble_eq_true rfl) rfl (fun X => ?_)
  unfold jx_Mo_price
  refine fp_iload_n (i := 1) (x := p1) dd_Mo_price_0 rfl rfl (fr_pc (pc' := 1) rfl ?_)
  refine fp_iconst (v := (0 : Int32)) dd_Mo_price_1 (by decide) (fr_pc (pc' := 2) rfl ?_)
  refine fp_iconst (v := (1 : Int32)) dd_Mo_price_2 (by decide) (fr_pc (pc' := 3) rfl ?_)
  refine fr_callS (stk := []) (ok_Mo_lies p1 (0 : Int32) (1 : Int32)) mt_Mo_lies rfl rfl sw_1237 sw_1238 (by decide) (Nat.le_of_ble_eq_true rfl) dd_Mo_price_3 (fun x1 => fr_to (pc' := 6) (env' := [some (sf_rv p0), some (.int p1), some (.int p2), some (.int p3)]) (stk' := [.int x1]) rfl rfl rfl ?_)
  refine fr_if_eq (tgt := 27) dd_Mo_price_6 rfl (fun _ => ?_) (fun _ => ?_)
  · refine fp_iconst (v := (-1 : Int32)) dd_Mo_price_27 (by decide) (fr_pc (pc' := 28) rfl ?_)
    exact fr_iret (v := (-1 : Int32)) rfl rfl dd_Mo_price_28
  · refine fr_pc (pc' := 9) rfl ?_
    refine fp_iload_n (i := 2) (x := p2) dd_Mo_price_9 rfl rfl (fr_pc (pc' := 10) rfl ?_)
    refine fp_iload_n (i := 3) (x := p3) dd_Mo_price_10 rfl rfl (fr_pc (pc' := 11) rfl ?_)
    refine fr_callS (stk := []) (ok_Mo_areTwo p2 p3) mt_Mo_areTwo rfl rfl sw_1282 sw_1283 (by decide) (Nat.le_of_ble_eq_true rfl) dd_Mo_price_11 (fun x3 => fr_to (pc' := 14) (env' := [some (sf_rv p0), some (.int p1), some (.int p2), some (.int p3)]) (stk' := [.int x3]) rfl rfl rfl ?_)
    refine fr_if_eq (tgt := 27) dd_Mo_price_14 rfl (fun _ => ?_) (fun _ => ?_)
    · refine fp_iconst (v := (-1 : Int32)) dd_Mo_price_27 (by decide) (fr_pc (pc' := 28) rfl ?_)
      exact fr_iret (v := (-1 : Int32)) rfl rfl dd_Mo_price_28
    · refine fr_pc (pc' := 17) rfl ?_
      refine fp_aload_n (i := 0) (r := p0) dd_Mo_price_17 rfl rfl (fr_pc (pc' := 18) rfl ?_)
      refine fp_iload_n (i := 1) (x := p1) dd_Mo_price_18 rfl rfl (fr_pc (pc' := 19) rfl ?_)
      refine fp_iload_n (i := 2) (x := p2) dd_Mo_price_19 rfl rfl (fr_pc (pc' := 20) rfl ?_)
      refine fp_iload_n (i := 3) (x := p3) dd_Mo_price_20 rfl rfl (fr_pc (pc' := 21) rfl ?_)
      refine fr_callV (stk := []) (As := [.int p1, .int p2, .int p3]) cl_11 (ok_Mo_costOf p0 p1 p2 p3) mt_Mo_costOf rfl rfl sw_1430 sw_1432 sp_53 (by decide) (Nat.le_of_ble_eq_true rfl) dd_Mo_price_21 (fun x5 => fr_to (pc' := 24) (env' := [some (sf_rv p0), some (.int p1), some (.int p2), some (.int p3)]) (stk' := [.int x5]) rfl rfl rfl ?_)
      refine fp_goto (tgt := 28) dd_Mo_price_24 rfl ?_
      exact fr_iret (v := x5) rfl rfl dd_Mo_price_28
theorem mt_Mo_isBarred : sf_Mt ({ cls := "SplitFaresModel", name := "isBarred", desc := "(IIII)I" } : Jvm.MethodName) prog_13_method_78_code 5 (some .int) 4 := ⟨sw_1503, sw_12, ⟨by decide, by decide, by decide +kernel⟩, by decide⟩
theorem dd_Mo_isBarred_0 : decode prog_13_method_78_code 0 = .ok (.aload_n 0, 1) := by decide +kernel
theorem dd_Mo_isBarred_1 : decode prog_13_method_78_code 1 = .ok (.iload_n 1, 1) := by decide +kernel
theorem dd_Mo_isBarred_2 : decode prog_13_method_78_code 2 = .ok (.invokevirtual 132, 3) := by decide +kernel
theorem dd_Mo_isBarred_5 : decode prog_13_method_78_code 5 = .ok (.ifCond .eq 21, 3) := by decide +kernel
theorem dd_Mo_isBarred_8 : decode prog_13_method_78_code 8 = .ok (.iload_n 2, 1) := by decide +kernel
theorem dd_Mo_isBarred_9 : decode prog_13_method_78_code 9 = .ok (.iconst 0, 1) := by decide +kernel
theorem dd_Mo_isBarred_10 : decode prog_13_method_78_code 10 = .ok (.iconst 1, 1) := by decide +kernel
theorem dd_Mo_isBarred_11 : decode prog_13_method_78_code 11 = .ok (.invokestatic 18, 3) := by decide +kernel
theorem dd_Mo_isBarred_14 : decode prog_13_method_78_code 14 = .ok (.ifCond .eq 12, 3) := by decide +kernel
theorem dd_Mo_isBarred_17 : decode prog_13_method_78_code 17 = .ok (.iload_n 3, 1) := by decide +kernel
theorem dd_Mo_isBarred_18 : decode prog_13_method_78_code 18 = .ok (.iload 4, 2) := by decide +kernel
theorem dd_Mo_isBarred_20 : decode prog_13_method_78_code 20 = .ok (.invokestatic 139, 3) := by decide +kernel
theorem dd_Mo_isBarred_23 : decode prog_13_method_78_code 23 = .ok (.ifCond .ne 5, 3) := by decide +kernel
theorem dd_Mo_isBarred_28 : decode prog_13_method_78_code 28 = .ok (.aload_n 0, 1) := by decide +kernel
theorem dd_Mo_isBarred_29 : decode prog_13_method_78_code 29 = .ok (.iload_n 1, 1) := by decide +kernel
theorem dd_Mo_isBarred_30 : decode prog_13_method_78_code 30 = .ok (.iload_n 2, 1) := by decide +kernel
theorem dd_Mo_isBarred_31 : decode prog_13_method_78_code 31 = .ok (.iload_n 3, 1) := by decide +kernel
theorem dd_Mo_isBarred_32 : decode prog_13_method_78_code 32 = .ok (.iload 4, 2) := by decide +kernel
theorem dd_Mo_isBarred_34 : decode prog_13_method_78_code 34 = .ok (.invokevirtual 335, 3) := by decide +kernel
theorem dd_Mo_isBarred_37 : decode prog_13_method_78_code 37 = .ok (.ifCond .eq 7, 3) := by decide +kernel
theorem dd_Mo_isBarred_40 : decode prog_13_method_78_code 40 = .ok (.iconst 1, 1) := by decide +kernel
theorem dd_Mo_isBarred_41 : decode prog_13_method_78_code 41 = .ok (.goto 4, 3) := by decide +kernel
theorem dd_Mo_isBarred_44 : decode prog_13_method_78_code 44 = .ok (.iconst 0, 1) := by decide +kernel
theorem dd_Mo_isBarred_45 : decode prog_13_method_78_code 45 = .ok (.ireturn, 1) := by decide +kernel
theorem dd_Mo_isBarred_26 : decode prog_13_method_78_code 26 = .ok (.iconst (-1), 1) := by decide +kernel
theorem dd_Mo_isBarred_27 : decode prog_13_method_78_code 27 = .ok (.ireturn, 1) := by decide +kernel
def jx_Mo_isBarred (p0 : Option Nat) (p1 : Int32) (p2 : Int32) (p3 : Int32) (p4 : Int32) : sf_M (Int32) :=
  sf_bnd (sf_rc 11 p0 (jx_Mo_isTrain p0 p1)) fun x1 =>
  if x1 = 0 then (
  sf_ret (-1 : Int32)
  ) else (
  sf_bnd (jx_Mo_lies p2 (0 : Int32) (1 : Int32)) fun x3 =>
  if x3 = 0 then (
  sf_ret (-1 : Int32)
  ) else (
  sf_bnd (jx_Mo_areTwo p3 p4) fun x5 =>
  if x5 = 0 then (
  sf_ret (-1 : Int32)
  ) else (
  sf_bnd (sf_rc 11 p0 (jx_Mo_barredFrom p0 p1 p2 p3 p4)) fun x7 =>
  if x7 = 0 then (
  sf_ret (0 : Int32)
  ) else (
  sf_ret (1 : Int32)
  )
  )
  )
  )
set_option maxRecDepth 20000 in
set_option maxHeartbeats 4000000 in
theorem ok_Mo_isBarred (p0 : Option Nat) (p1 : Int32) (p2 : Int32) (p3 : Int32) (p4 : Int32) : sf_Ok ({ cls := "SplitFaresModel", name := "isBarred", desc := "(IIII)I" } : Jvm.MethodName) prog_13_method_78_code 5 (some .int) 207 [sf_rv p0, .int p1, .int p2, .int p3, .int p4] (jx_Mo_isBarred p0 p1 p2 p3 p4) (fun r => some (.int r)) := by
  refine sf_Ok.of (env := [some (sf_rv p0), some (.int p1), some (.int p2), some (.int p3), some (.int p4)]) (plainFor_of_name (by decide)) [false, false, false, false, false] (fun G => ⟨pk_r, pk_i, pk_i, pk_i, pk_i, trivial⟩) (Nat.le_of_ble_eq_true rfl) rfl (fun X => ?_)
  unfold jx_Mo_isBarred
  refine fp_aload_n (i := 0) (r := p0) dd_Mo_isBarred_0 rfl rfl (fr_pc (pc' := 1) rfl ?_)
  refine fp_iload_n (i := 1) (x := p1) dd_Mo_isBarred_1 rfl rfl (fr_pc (pc' := 2) rfl ?_)
  refine fr_callV (stk := []) (As := [.int p1]) cl_11 (ok_Mo_isTrain p0 p1) mt_Mo_isTrain rfl rfl sw_1274 sw_1276 sp_31 (by decide) (Nat.le_of_ble_eq_true rfl) dd_Mo_isBarred_2 (fun x1 => fr_to (pc' := 5) (env' := [some (sf_rv p0), some (.int p1), some (.int p2), some (.int p3), some (.int p4)]) (stk' := [.int x1]) rfl rfl rfl ?_)
  refine fr_if_eq (tgt := 26) dd_Mo_isBarred_5 rfl (fun _ => ?_) (fun _ => ?_)
  · refine fp_iconst (v := (-1 : Int32)) dd_Mo_isBarred_26 (by decide) (fr_pc (pc' := 27) rfl ?_)
    exact fr_iret (v := (-1 : Int32)) rfl rfl dd_Mo_isBarred_27
  · refine fr_pc (pc' := 8) rfl ?_
    refine fp_iload_n (i := 2) (x := p2) dd_Mo_isBarred_8 rfl rfl (fr_pc (pc' := 9) rfl ?_)
    refine fp_iconst (v := (0 : Int32)) dd_Mo_isBarred_9 (by decide) (fr_pc (pc' := 10) rfl ?_)
    refine fp_iconst (v := (1 : Int32)) dd_Mo_isBarred_10 (by decide) (fr_pc (pc' := 11) rfl ?_)
    refine fr_callS (stk := []) (ok_Mo_lies p2 (0 : Int32) (1 : Int32)) mt_Mo_lies rfl rfl sw_1237 sw_1238 (by decide) (Nat.le_of_ble_eq_true rfl) dd_Mo_isBarred_11 (fun x3 => fr_to (pc' := 14) (env' := [some (sf_rv p0), some (.int p1), some (.int p2), some (.int p3), some (.int p4)]) (stk' := [.int x3]) rfl rfl rfl ?_)
    refine fr_if_eq (tgt := 26) dd_Mo_isBarred_14 rfl (fun _ => ?_) (fun _ => ?_)
    · refine fp_iconst (v := (-1 : Int32)) dd_Mo_isBarred_26 (by decide) (fr_pc (pc' := 27) rfl ?_)
      exact fr_iret (v := (-1 : Int32)) rfl rfl dd_Mo_isBarred_27
    · refine fr_pc (pc' := 17) rfl ?_
      refine fp_iload_n (i := 3) (x := p3) dd_Mo_isBarred_17 rfl rfl (fr_pc (pc' := 18) rfl ?_)
      refine fp_iload (i := 4) (x := p4) dd_Mo_isBarred_18 rfl (fr_pc (pc' := 20) rfl ?_)
      refine fr_callS (stk := []) (ok_Mo_areTwo p3 p4) mt_Mo_areTwo rfl rfl sw_1282 sw_1283 (by decide) (Nat.le_of_ble_eq_true rfl) dd_Mo_isBarred_20 (fun x5 => fr_to (pc' := 23) (env' := [some (sf_rv p0), some (.int p1), some (.int p2), some (.int p3), some (.int p4)]) (stk' := [.int x5]) rfl rfl rfl ?_)
      refine fr_if_ne (tgt := 28) dd_Mo_isBarred_23 rfl (fun _ => ?_) (fun _ => ?_)
      · refine fr_pc (pc' := 26) rfl ?_
        refine fp_iconst (v := (-1 : Int32)) dd_Mo_isBarred_26 (by decide) (fr_pc (pc' := 27) rfl ?_)
        exact fr_iret (v := (-1 : Int32)) rfl rfl dd_Mo_isBarred_27
      · refine fp_aload_n (i := 0) (r := p0) dd_Mo_isBarred_28 rfl rfl (fr_pc (pc' := 29) rfl ?_)
        refine fp_iload_n (i := 1) (x := p1) dd_Mo_isBarred_29 rfl rfl (fr_pc (pc' := 30) rfl ?_)
        refine fp_iload_n (i := 2) (x := p2) dd_Mo_isBarred_30 rfl rfl (fr_pc (pc' := 31) rfl ?_)
        refine fp_iload_n (i := 3) (x := p3) dd_Mo_isBarred_31 rfl rfl (fr_pc (pc' := 32) rfl ?_)
        refine fp_iload (i := 4) (x := p4) dd_Mo_isBarred_32 rfl (fr_pc (pc' := 34) rfl ?_)
        refine fr_callV (stk := []) (As := [.int p1, .int p2, .int p3, .int p4]) cl_11 (ok_Mo_barredFrom p0 p1 p2 p3 p4) mt_Mo_barredFrom rfl rfl sw_1504 sw_1506 sp_69 (by decide) (Nat.le_of_ble_eq_true rfl) dd_Mo_isBarred_34 (fun x7 => fr_to (pc' := 37) (env' := [some (sf_rv p0), some (.int p1), some (.int p2), some (.int p3), some (.int p4)]) (stk' := [.int x7]) rfl rfl rfl ?_)
        refine fr_if_eq (tgt := 44) dd_Mo_isBarred_37 rfl (fun _ => ?_) (fun _ => ?_)
        · refine fp_iconst (v := (0 : Int32)) dd_Mo_isBarred_44 (by decide) (fr_pc (pc' := 45) rfl ?_)
          exact fr_iret (v := (0 : Int32)) rfl rfl dd_Mo_isBarred_45
        · refine fr_pc (pc' := 40) rfl ?_
          refine fp_iconst (v := (1 : Int32)) dd_Mo_isBarred_40 (by decide) (fr_pc (pc' := 41) rfl ?_)
          refine fp_goto (tgt := 45) dd_Mo_isBarred_41 rfl ?_
          exact fr_iret (v := (1 : Int32)) rfl rfl dd_Mo_isBarred_45
theorem mt_Mo_goes : sf_Mt ({ cls := "SplitFaresModel", name := "goes", desc := "(III)Z" } : Jvm.MethodName) prog_13_method_79_code 4 (some .boolean) 3 := ⟨sw_1519, sw_12, ⟨by decide, by decide, by decide +kernel⟩, by decide⟩
theorem dd_Mo_goes_0 : decode prog_13_method_79_code 0 = .ok (.iload_n 2, 1) := by decide +kernel
theorem dd_Mo_goes_1 : decode prog_13_method_79_code 1 = .ok (.iload_n 3, 1) := by decide +kernel
theorem dd_Mo_goes_2 : decode prog_13_method_79_code 2 = .ok (.invokestatic 139, 3) := by decide +kernel
theorem dd_Mo_goes_5 : decode prog_13_method_79_code 5 = .ok (.ifCond .eq 37, 3) := by decide +kernel
theorem dd_Mo_goes_8 : decode prog_13_method_79_code 8 = .ok (.aload_n 0, 1) := by decide +kernel
theorem dd_Mo_goes_9 : decode prog_13_method_79_code 9 = .ok (.getfield 32, 3) := by decide +kernel
theorem dd_Mo_goes_12 : decode prog_13_method_79_code 12 = .ok (.sipush 195, 3) := by decide +kernel
theorem dd_Mo_goes_15 : decode prog_13_method_79_code 15 = .ok (.iload_n 1, 1) := by decide +kernel
theorem dd_Mo_goes_16 : decode prog_13_method_79_code 16 = .ok (.iadd, 1) := by decide +kernel
theorem dd_Mo_goes_17 : decode prog_13_method_79_code 17 = .ok (.iaload, 1) := by decide +kernel
theorem dd_Mo_goes_18 : decode prog_13_method_79_code 18 = .ok (.iload_n 2, 1) := by decide +kernel
theorem dd_Mo_goes_19 : decode prog_13_method_79_code 19 = .ok (.invokestatic 342, 3) := by decide +kernel
theorem dd_Mo_goes_22 : decode prog_13_method_79_code 22 = .ok (.ifCond .eq 20, 3) := by decide +kernel
theorem dd_Mo_goes_25 : decode prog_13_method_79_code 25 = .ok (.aload_n 0, 1) := by decide +kernel
theorem dd_Mo_goes_26 : decode prog_13_method_79_code 26 = .ok (.getfield 32, 3) := by decide +kernel
theorem dd_Mo_goes_29 : decode prog_13_method_79_code 29 = .ok (.sipush 195, 3) := by decide +kernel
theorem dd_Mo_goes_32 : decode prog_13_method_79_code 32 = .ok (.iload_n 1, 1) := by decide +kernel
theorem dd_Mo_goes_33 : decode prog_13_method_79_code 33 = .ok (.iadd, 1) := by decide +kernel
theorem dd_Mo_goes_34 : decode prog_13_method_79_code 34 = .ok (.iaload, 1) := by decide +kernel
theorem dd_Mo_goes_35 : decode prog_13_method_79_code 35 = .ok (.iload_n 3, 1) := by decide +kernel
theorem dd_Mo_goes_36 : decode prog_13_method_79_code 36 = .ok (.invokestatic 342, 3) := by decide +kernel
theorem dd_Mo_goes_39 : decode prog_13_method_79_code 39 = .ok (.ifCond .ne 5, 3) := by decide +kernel
theorem dd_Mo_goes_44 : decode prog_13_method_79_code 44 = .ok (.aload_n 0, 1) := by decide +kernel
theorem dd_Mo_goes_45 : decode prog_13_method_79_code 45 = .ok (.getfield 32, 3) := by decide +kernel
theorem dd_Mo_goes_48 : decode prog_13_method_79_code 48 = .ok (.sipush 201, 3) := by decide +kernel
theorem dd_Mo_goes_51 : decode prog_13_method_79_code 51 = .ok (.iload_n 1, 1) := by decide +kernel
theorem dd_Mo_goes_52 : decode prog_13_method_79_code 52 = .ok (.iadd, 1) := by decide +kernel
theorem dd_Mo_goes_53 : decode prog_13_method_79_code 53 = .ok (.iaload, 1) := by decide +kernel
theorem dd_Mo_goes_54 : decode prog_13_method_79_code 54 = .ok (.iconst 1, 1) := by decide +kernel
theorem dd_Mo_goes_55 : decode prog_13_method_79_code 55 = .ok (.if_icmp .ne 16, 3) := by decide +kernel
theorem dd_Mo_goes_58 : decode prog_13_method_79_code 58 = .ok (.iload_n 3, 1) := by decide +kernel
theorem dd_Mo_goes_59 : decode prog_13_method_79_code 59 = .ok (.iload_n 2, 1) := by decide +kernel
theorem dd_Mo_goes_60 : decode prog_13_method_79_code 60 = .ok (.if_icmp .le 7, 3) := by decide +kernel
theorem dd_Mo_goes_63 : decode prog_13_method_79_code 63 = .ok (.iconst 1, 1) := by decide +kernel
theorem dd_Mo_goes_64 : decode prog_13_method_79_code 64 = .ok (.goto 17, 3) := by decide +kernel
theorem dd_Mo_goes_67 : decode prog_13_method_79_code 67 = .ok (.iconst 0, 1) := by decide +kernel
theorem dd_Mo_goes_68 : decode prog_13_method_79_code 68 = .ok (.goto 13, 3) := by decide +kernel
theorem dd_Mo_goes_71 : decode prog_13_method_79_code 71 = .ok (.iload_n 3, 1) := by decide +kernel
theorem dd_Mo_goes_72 : decode prog_13_method_79_code 72 = .ok (.iload_n 2, 1) := by decide +kernel
theorem dd_Mo_goes_73 : decode prog_13_method_79_code 73 = .ok (.if_icmp .ge 7, 3) := by decide +kernel
theorem dd_Mo_goes_76 : decode prog_13_method_79_code 76 = .ok (.iconst 1, 1) := by decide +kernel
theorem dd_Mo_goes_77 : decode prog_13_method_79_code 77 = .ok (.goto 4, 3) := by decide +kernel
theorem dd_Mo_goes_80 : decode prog_13_method_79_code 80 = .ok (.iconst 0, 1) := by decide +kernel
theorem dd_Mo_goes_81 : decode prog_13_method_79_code 81 = .ok (.ireturn, 1) := by decide +kernel
theorem dd_Mo_goes_42 : decode prog_13_method_79_code 42 = .ok (.iconst 0, 1) := by decide +kernel
theorem dd_Mo_goes_43 : decode prog_13_method_79_code 43 = .ok (.ireturn, 1) := by decide +kernel
def jx_Mo_goes (p0 : Option Nat) (p1 : Int32) (p2 : Int32) (p3 : Int32) : sf_M (Int32) :=
  sf_bnd (jx_Mo_areTwo p2 p3) fun x1 =>
  if x1 = 0 then (
  sf_ret (0 : Int32)
  ) else (
  sf_bnd (sf_gR 11 2 p0) fun x3 =>
  sf_bnd (sf_aI 0 x3 ((195 : Int32) + p1)) fun x4 =>
  sf_bnd (jx_Mo_isIn x4 p2) fun x5 =>
  if x5 = 0 then (
  sf_ret (0 : Int32)
  ) else (
  sf_bnd (sf_gR 11 2 p0) fun x7 =>
  sf_bnd (sf_aI 0 x7 ((195 : Int32) + p1)) fun x8 =>
  sf_bnd (jx_Mo_isIn x8 p3) fun x9 =>
  if x9 = 0 then (
  sf_ret (0 : Int32)
  ) else (
  sf_bnd (sf_gR 11 2 p0) fun x11 =>
  sf_bnd (sf_aI 0 x11 ((201 : Int32) + p1)) fun x12 =>
  if x12 = (1 : Int32) then (
  if p3 ≤ p2 then (
  sf_ret (0 : Int32)
  ) else (
  sf_ret (1 : Int32)
  )
  ) else (
  if p2 ≤ p3 then (
  sf_ret (0 : Int32)
  ) else (
  sf_ret (1 : Int32)
  )
  )
  )
  )
  )
set_option maxRecDepth 20000 in
set_option maxHeartbeats 4000000 in
theorem ok_Mo_goes (p0 : Option Nat) (p1 : Int32) (p2 : Int32) (p3 : Int32) : sf_Ok ({ cls := "SplitFaresModel", name := "goes", desc := "(III)Z" } : Jvm.MethodName) prog_13_method_79_code 4 (some .boolean) 3 [sf_rv p0, .int p1, .int p2, .int p3] (jx_Mo_goes p0 p1 p2 p3) (fun r => some (.int r)) := by
  refine sf_Ok.of (env := [some (sf_rv p0), some (.int p1), some (.int p2), some (.int p3)]) (plainFor_of_name (by decide)) [false, false, false, false] (fun G => ⟨pk_r, pk_i, pk_i, pk_i, trivial⟩) (Nat.le_of_ble_eq_true rfl) rfl (fun X => ?_)
  unfold jx_Mo_goes
  refine fp_iload_n (i := 2) (x := p2) dd_Mo_goes_0 rfl rfl (fr_pc (pc' := 1) rfl ?_)
  refine fp_iload_n (i := 3) (x := p3) dd_Mo_goes_1 rfl rfl (fr_pc (pc' := 2) rfl ?_)
  refine fr_callS (stk := []) (ok_Mo_areTwo p2 p3) mt_Mo_areTwo rfl rfl sw_1282 sw_1283 (by decide) (Nat.le_of_ble_eq_true rfl) dd_Mo_goes_2 (fun x1 => fr_to (pc' := 5) (env' := [some (sf_rv p0), some (.int p1), some (.int p2), some (.int p3)]) (stk' := [.int x1]) rfl rfl rfl ?_)
  refine fr_if_eq (tgt := 42) dd_Mo_goes_5 rfl (fun _ => ?_) (fun _ => ?_)
  · refine fp_iconst (v := (0 : Int32)) dd_Mo_goes_42 (by decide) (fr_pc (pc' := 43) rfl ?_)
    exact fr_zret0 (v := (0 : Int32)) (Or.inl rfl) rfl rfl dd_Mo_goes_43
  · refine fr_pc (pc' := 8) rfl ?_
    refine fp_aload_n (i := 0) (r := p0) dd_Mo_goes_8 rfl rfl (fr_pc (pc' := 9) rfl ?_)
    refine fr_gR cl_11 2 (by decide) rfl sw_1074 dd_Mo_goes_9 (fun x3 => fr_pc (pc' := 12) rfl ?_)
    refine fp_sipush (v := (195 : Int32)) dd_Mo_goes_12 (by decide) (fr_pc (pc' := 15) rfl ?_)
    refine fp_iload_n (i := 1) (x := p1) dd_Mo_goes_15 rfl rfl (fr_pc (pc' := 16) rfl ?_)
    refine fp_iadd dd_Mo_goes_16 (fr_pc (pc' := 17) rfl ?_)
    refine fr_aI0 dd_Mo_goes_17 (fun x4 => fr_pc (pc' := 18) rfl ?_)
    refine fp_iload_n (i := 2) (x := p2) dd_Mo_goes_18 rfl rfl (fr_pc (pc' := 19) rfl ?_)
    refine fr_callS (stk := []) (ok_Mo_isIn x4 p2) mt_Mo_isIn rfl rfl sw_1520 sw_1521 (by decide) (Nat.le_of_ble_eq_true rfl) dd_Mo_goes_19 (fun x5 => fr_to (pc' := 22) (env' := [some (sf_rv p0), some (.int p1), some (.int p2), some (.int p3)]) (stk' := [.int x5]) rfl rfl rfl ?_)
    refine fr_if_eq (tgt := 42) dd_Mo_goes_22 rfl (fun _ => ?_) (fun _ => ?_)
    · refine fp_iconst (v := (0 : Int32)) dd_Mo_goes_42 (by decide) (fr_pc (pc' := 43) rfl ?_)
      exact fr_zret0 (v := (0 : Int32)) (Or.inl rfl) rfl rfl dd_Mo_goes_43
    · refine fr_pc (pc' := 25) rfl ?_
      refine fp_aload_n (i := 0) (r := p0) dd_Mo_goes_25 rfl rfl (fr_pc (pc' := 26) rfl ?_)
      refine fr_gR cl_11 2 (by decide) rfl sw_1074 dd_Mo_goes_26 (fun x7 => fr_pc (pc' := 29) rfl ?_)
      refine fp_sipush (v := (195 : Int32)) dd_Mo_goes_29 (by decide) (fr_pc (pc' := 32) rfl ?_)
      refine fp_iload_n (i := 1) (x := p1) dd_Mo_goes_32 rfl rfl (fr_pc (pc' := 33) rfl ?_)
      refine fp_iadd dd_Mo_goes_33 (fr_pc (pc' := 34) rfl ?_)
      refine fr_aI0 dd_Mo_goes_34 (fun x8 => fr_pc (pc' := 35) rfl ?_)
      refine fp_iload_n (i := 3) (x := p3) dd_Mo_goes_35 rfl rfl (fr_pc (pc' := 36) rfl ?_)
      refine fr_callS (stk := []) (ok_Mo_isIn x8 p3) mt_Mo_isIn rfl rfl sw_1520 sw_1521 (by decide) (Nat.le_of_ble_eq_true rfl) dd_Mo_goes_36 (fun x9 => fr_to (pc' := 39) (env' := [some (sf_rv p0), some (.int p1), some (.int p2), some (.int p3)]) (stk' := [.int x9]) rfl rfl rfl ?_)
      refine fr_if_ne (tgt := 44) dd_Mo_goes_39 rfl (fun _ => ?_) (fun _ => ?_)
      · refine fr_pc (pc' := 42) rfl ?_
        refine fp_iconst (v := (0 : Int32)) dd_Mo_goes_42 (by decide) (fr_pc (pc' := 43) rfl ?_)
        exact fr_zret0 (v := (0 : Int32)) (Or.inl rfl) rfl rfl dd_Mo_goes_43
      · refine fp_aload_n (i := 0) (r := p0) dd_Mo_goes_44 rfl rfl (fr_pc (pc' := 45) rfl ?_)
        refine fr_gR cl_11 2 (by decide) rfl sw_1074 dd_Mo_goes_45 (fun x11 => fr_pc (pc' := 48) rfl ?_)
        refine fp_sipush (v := (201 : Int32)) dd_Mo_goes_48 (by decide) (fr_pc (pc' := 51) rfl ?_)
        refine fp_iload_n (i := 1) (x := p1) dd_Mo_goes_51 rfl rfl (fr_pc (pc' := 52) rfl ?_)
        refine fp_iadd dd_Mo_goes_52 (fr_pc (pc' := 53) rfl ?_)
        refine fr_aI0 dd_Mo_goes_53 (fun x12 => fr_pc (pc' := 54) rfl ?_)
        refine fp_iconst (v := (1 : Int32)) dd_Mo_goes_54 (by decide) (fr_pc (pc' := 55) rfl ?_)
        refine fr_icmp_ne (tgt := 71) dd_Mo_goes_55 rfl (fun _ => ?_) (fun _ => ?_)
        · refine fr_pc (pc' := 58) rfl ?_
          refine fp_iload_n (i := 3) (x := p3) dd_Mo_goes_58 rfl rfl (fr_pc (pc' := 59) rfl ?_)
          refine fp_iload_n (i := 2) (x := p2) dd_Mo_goes_59 rfl rfl (fr_pc (pc' := 60) rfl ?_)
          refine fr_icmp_le (tgt := 67) dd_Mo_goes_60 rfl (fun _ => ?_) (fun _ => ?_)
          · refine fp_iconst (v := (0 : Int32)) dd_Mo_goes_67 (by decide) (fr_pc (pc' := 68) rfl ?_)
            refine fp_goto (tgt := 81) dd_Mo_goes_68 rfl ?_
            exact fr_zret0 (v := (0 : Int32)) (Or.inl rfl) rfl rfl dd_Mo_goes_81
          · refine fr_pc (pc' := 63) rfl ?_
            refine fp_iconst (v := (1 : Int32)) dd_Mo_goes_63 (by decide) (fr_pc (pc' := 64) rfl ?_)
            refine fp_goto (tgt := 81) dd_Mo_goes_64 rfl ?_
            exact fr_zret0 (v := (1 : Int32)) (Or.inr rfl) rfl rfl dd_Mo_goes_81
        · refine fp_iload_n (i := 3) (x := p3) dd_Mo_goes_71 rfl rfl (fr_pc (pc' := 72) rfl ?_)
          refine fp_iload_n (i := 2) (x := p2) dd_Mo_goes_72 rfl rfl (fr_pc (pc' := 73) rfl ?_)
          refine fr_icmp_ge (tgt := 80) dd_Mo_goes_73 rfl (fun _ => ?_) (fun _ => ?_)
          · refine fp_iconst (v := (0 : Int32)) dd_Mo_goes_80 (by decide) (fr_pc (pc' := 81) rfl ?_)
            exact fr_zret0 (v := (0 : Int32)) (Or.inl rfl) rfl rfl dd_Mo_goes_81
          · refine fr_pc (pc' := 76) rfl ?_
            refine fp_iconst (v := (1 : Int32)) dd_Mo_goes_76 (by decide) (fr_pc (pc' := 77) rfl ?_)
            refine fp_goto (tgt := 81) dd_Mo_goes_77 rfl ?_
            exact fr_zret0 (v := (1 : Int32)) (Or.inr rfl) rfl rfl dd_Mo_goes_81
theorem mt_Mo_laysLine : sf_Mt ({ cls := "SplitFaresModel", name := "laysLine", desc := "(III)V" } : Jvm.MethodName) prog_13_method_80_code 6 none 3 := ⟨sw_1530, sw_12, ⟨by decide, by decide, by decide +kernel⟩, by decide⟩
theorem dd_Mo_laysLine_0 : decode prog_13_method_80_code 0 = .ok (.aload_n 0, 1) := by decide +kernel
theorem dd_Mo_laysLine_1 : decode prog_13_method_80_code 1 = .ok (.getfield 32, 3) := by decide +kernel
theorem dd_Mo_laysLine_4 : decode prog_13_method_80_code 4 = .ok (.sipush 201, 3) := by decide +kernel
theorem dd_Mo_laysLine_7 : decode prog_13_method_80_code 7 = .ok (.iload_n 1, 1) := by decide +kernel
theorem dd_Mo_laysLine_8 : decode prog_13_method_80_code 8 = .ok (.iadd, 1) := by decide +kernel
theorem dd_Mo_laysLine_9 : decode prog_13_method_80_code 9 = .ok (.iaload, 1) := by decide +kernel
theorem dd_Mo_laysLine_10 : decode prog_13_method_80_code 10 = .ok (.iconst 1, 1) := by decide +kernel
theorem dd_Mo_laysLine_11 : decode prog_13_method_80_code 11 = .ok (.if_icmp .ne 7, 3) := by decide +kernel
theorem dd_Mo_laysLine_14 : decode prog_13_method_80_code 14 = .ok (.iconst 1, 1) := by decide +kernel
theorem dd_Mo_laysLine_15 : decode prog_13_method_80_code 15 = .ok (.goto 4, 3) := by decide +kernel
theorem dd_Mo_laysLine_18 : decode prog_13_method_80_code 18 = .ok (.iconst (-1), 1) := by decide +kernel
theorem dd_Mo_laysLine_19 : decode prog_13_method_80_code 19 = .ok (.istore 4, 2) := by decide +kernel
theorem dd_Mo_laysLine_21 : decode prog_13_method_80_code 21 = .ok (.aload_n 0, 1) := by decide +kernel
theorem dd_Mo_laysLine_22 : decode prog_13_method_80_code 22 = .ok (.iconst 0, 1) := by decide +kernel
theorem dd_Mo_laysLine_23 : decode prog_13_method_80_code 23 = .ok (.putfield 345, 3) := by decide +kernel
theorem dd_Mo_laysLine_26 : decode prog_13_method_80_code 26 = .ok (.iload_n 2, 1) := by decide +kernel
theorem dd_Mo_laysLine_27 : decode prog_13_method_80_code 27 = .ok (.istore 5, 2) := by decide +kernel
theorem dd_Mo_laysLine_29 : decode prog_13_method_80_code 29 = .ok (.iload 5, 2) := by decide +kernel
theorem dd_Mo_laysLine_31 : decode prog_13_method_80_code 31 = .ok (.iload_n 3, 1) := by decide +kernel
theorem dd_Mo_laysLine_32 : decode prog_13_method_80_code 32 = .ok (.iload 4, 2) := by decide +kernel
theorem dd_Mo_laysLine_34 : decode prog_13_method_80_code 34 = .ok (.iadd, 1) := by decide +kernel
theorem dd_Mo_laysLine_35 : decode prog_13_method_80_code 35 = .ok (.if_icmp .eq 55, 3) := by decide +kernel
theorem dd_Mo_laysLine_38 : decode prog_13_method_80_code 38 = .ok (.aload_n 0, 1) := by decide +kernel
theorem dd_Mo_laysLine_39 : decode prog_13_method_80_code 39 = .ok (.getfield 32, 3) := by decide +kernel
theorem dd_Mo_laysLine_42 : decode prog_13_method_80_code 42 = .ok (.sipush 195, 3) := by decide +kernel
theorem dd_Mo_laysLine_45 : decode prog_13_method_80_code 45 = .ok (.iload_n 1, 1) := by decide +kernel
theorem dd_Mo_laysLine_46 : decode prog_13_method_80_code 46 = .ok (.iadd, 1) := by decide +kernel
theorem dd_Mo_laysLine_47 : decode prog_13_method_80_code 47 = .ok (.iaload, 1) := by decide +kernel
theorem dd_Mo_laysLine_48 : decode prog_13_method_80_code 48 = .ok (.iload 5, 2) := by decide +kernel
theorem dd_Mo_laysLine_50 : decode prog_13_method_80_code 50 = .ok (.invokestatic 342, 3) := by decide +kernel
theorem dd_Mo_laysLine_53 : decode prog_13_method_80_code 53 = .ok (.ifCond .ne 6, 3) := by decide +kernel
theorem dd_Mo_laysLine_56 : decode prog_13_method_80_code 56 = .ok (.goto 24, 3) := by decide +kernel
theorem dd_Mo_laysLine_59 : decode prog_13_method_80_code 59 = .ok (.aload_n 0, 1) := by decide +kernel
theorem dd_Mo_laysLine_60 : decode prog_13_method_80_code 60 = .ok (.getfield 70, 3) := by decide +kernel
theorem dd_Mo_laysLine_63 : decode prog_13_method_80_code 63 = .ok (.aload_n 0, 1) := by decide +kernel
theorem dd_Mo_laysLine_64 : decode prog_13_method_80_code 64 = .ok (.getfield 345, 3) := by decide +kernel
theorem dd_Mo_laysLine_67 : decode prog_13_method_80_code 67 = .ok (.iload 5, 2) := by decide +kernel
theorem dd_Mo_laysLine_69 : decode prog_13_method_80_code 69 = .ok (.iastore, 1) := by decide +kernel
theorem dd_Mo_laysLine_70 : decode prog_13_method_80_code 70 = .ok (.aload_n 0, 1) := by decide +kernel
theorem dd_Mo_laysLine_71 : decode prog_13_method_80_code 71 = .ok (.dup, 1) := by decide +kernel
theorem dd_Mo_laysLine_72 : decode prog_13_method_80_code 72 = .ok (.getfield 345, 3) := by decide +kernel
theorem dd_Mo_laysLine_75 : decode prog_13_method_80_code 75 = .ok (.iconst 1, 1) := by decide +kernel
theorem dd_Mo_laysLine_76 : decode prog_13_method_80_code 76 = .ok (.iadd, 1) := by decide +kernel
theorem dd_Mo_laysLine_77 : decode prog_13_method_80_code 77 = .ok (.putfield 345, 3) := by decide +kernel
theorem dd_Mo_laysLine_80 : decode prog_13_method_80_code 80 = .ok (.iload 5, 2) := by decide +kernel
theorem dd_Mo_laysLine_82 : decode prog_13_method_80_code 82 = .ok (.iload 4, 2) := by decide +kernel
theorem dd_Mo_laysLine_84 : decode prog_13_method_80_code 84 = .ok (.iadd, 1) := by decide +kernel
theorem dd_Mo_laysLine_85 : decode prog_13_method_80_code 85 = .ok (.istore 5, 2) := by decide +kernel
theorem dd_Mo_laysLine_87 : decode prog_13_method_80_code 87 = .ok (.goto (-58), 3) := by decide +kernel
theorem dd_Mo_laysLine_90 : decode prog_13_method_80_code 90 = .ok (.return_, 1) := by decide +kernel
def jx_Mo_laysLine (p0 : Option Nat) (p1 : Int32) (p2 : Int32) (p3 : Int32) : sf_M (Unit) :=
  sf_bnd (sf_gR 11 2 p0) fun x1 =>
  sf_bnd (sf_aI 0 x1 ((201 : Int32) + p1)) fun x2 =>
  sf_bnd (α := (Int32)) (
  if x2 = (1 : Int32) then (
  sf_ret (1 : Int32)
  ) else (
  sf_ret (-1 : Int32)
  )
  ) (fun v4 =>
  sf_bnd (sf_pI 11 30 p0 (0 : Int32)) fun _ =>
  sf_bnd (sf_loop (β := (Int32)) (γ := (Unit)) (fun b5 =>
  if b5 = (p3 + v4) then (
  sf_ret (.inr ())
  ) else (
  sf_bnd (sf_gR 11 2 p0) fun x7 =>
  sf_bnd (sf_aI 0 x7 ((195 : Int32) + p1)) fun x8 =>
  sf_bnd (jx_Mo_isIn x8 b5) fun x9 =>
  if x9 = 0 then (
  sf_bnd (sf_ret ((b5 + v4))) fun y11 =>
  sf_ret (.inl y11)
  ) else (
  sf_bnd (sf_gR 11 29 p0) fun x12 =>
  sf_bnd (sf_gI 11 30 p0) fun x13 =>
  sf_bnd (sf_sI 0 x12 x13 b5) fun _ =>
  sf_bnd (sf_gI 11 30 p0) fun x14 =>
  sf_bnd (sf_pI 11 30 p0 (x14 + (1 : Int32))) fun _ =>
  sf_bnd (sf_ret ((b5 + v4))) fun y15 =>
  sf_ret (.inl y15)
  )
  )
  ) sf_fuel p2) (fun e16 =>
  sf_ret ()
  )
  )
set_option maxRecDepth 20000 in
set_option maxHeartbeats 4000000 in
theorem ok_Mo_laysLine (p0 : Option Nat) (p1 : Int32) (p2 : Int32) (p3 : Int32) : sf_Ok ({ cls := "SplitFaresModel", name := "laysLine", desc := "(III)V" } : Jvm.MethodName) prog_13_method_80_code 6 none 1 [sf_rv p0, .int p1, .int p2, .int p3] (jx_Mo_laysLine p0 p1 p2 p3) (fun _ => none) := by
  refine sf_Ok.of (env := [some (sf_rv p0), some (.int p1), some (.int p2), some (.int p3), none, none]) (plainFor_of_name (by decide)) [false, false, false, false] (fun G => ⟨pk_r, pk_i, pk_i, pk_i, trivial⟩) (Nat.le_of_ble_eq_true rfl) rfl (fun X => ?_)
  unfold jx_Mo_laysLine
  refine fp_aload_n (i := 0) (r := p0) dd_Mo_laysLine_0 rfl rfl (fr_pc (pc' := 1) rfl ?_)
  refine fr_gR cl_11 2 (by decide) rfl sw_1074 dd_Mo_laysLine_1 (fun x1 => fr_pc (pc' := 4) rfl ?_)
  refine fp_sipush (v := (201 : Int32)) dd_Mo_laysLine_4 (by decide) (fr_pc (pc' := 7) rfl ?_)
  refine fp_iload_n (i := 1) (x := p1) dd_Mo_laysLine_7 rfl rfl (fr_pc (pc' := 8) rfl ?_)
  refine fp_iadd dd_Mo_laysLine_8 (fr_pc (pc' := 9) rfl ?_)
  refine fr_aI0 dd_Mo_laysLine_9 (fun x2 => fr_pc (pc' := 10) rfl ?_)
  refine fp_iconst (v := (1 : Int32)) dd_Mo_laysLine_10 (by decide) (fr_pc (pc' := 11) rfl ?_)
  refine fr_bnd (l1 := (fun (v4 : (Int32)) => sf_p 19 [some (sf_rv p0), some (.int p1), some (.int p2), some (.int p3), none, none] [.int v4])) ?_ (fun v4 => ?_)
  · refine fr_icmp_ne (tgt := 18) dd_Mo_laysLine_11 rfl (fun _ => ?_) (fun _ => ?_)
    · refine fr_pc (pc' := 14) rfl ?_
      refine fp_iconst (v := (1 : Int32)) dd_Mo_laysLine_14 (by decide) (fr_pc (pc' := 15) rfl ?_)
      refine fp_goto (tgt := 19) dd_Mo_laysLine_15 rfl ?_
      exact fr_ret rfl
    · refine fp_iconst (v := (-1 : Int32)) dd_Mo_laysLine_18 (by decide) (fr_pc (pc' := 19) rfl ?_)
      exact fr_ret rfl
  · refine fp_istore (i := 4) dd_Mo_laysLine_19 (Nat.le_of_ble_eq_true rfl) (fun _ => c1_i rfl) (fr_to (pc' := 21) (env' := [some (sf_rv p0), some (.int p1), some (.int p2), some (.int p3), some (.int v4), none]) (stk' := []) rfl rfl rfl ?_)
    refine fp_aload_n (i := 0) (r := p0) dd_Mo_laysLine_21 rfl rfl (fr_pc (pc' := 22) rfl ?_)
    refine fp_iconst (v := (0 : Int32)) dd_Mo_laysLine_22 (by decide) (fr_pc (pc' := 23) rfl ?_)
    refine fr_pI cl_11 30 (by decide) rfl sw_1102 rfl ⟨rfl, rfl⟩ dd_Mo_laysLine_23 (fr_pc (pc' := 26) rfl ?_)
    refine fp_iload_n (i := 2) (x := p2) dd_Mo_laysLine_26 rfl rfl (fr_pc (pc' := 27) rfl ?_)
    refine fp_istore (i := 5) dd_Mo_laysLine_27 (Nat.le_of_ble_eq_true rfl) (fun _ => c1_i rfl) (fr_to (pc' := 29) (env' := [some (sf_rv p0), some (.int p1), some (.int p2), some (.int p3), some (.int v4), some (.int p2)]) (stk' := []) rfl rfl rfl ?_)
    refine fr_to (pc' := 29) (env' := [some (sf_rv p0), some (.int p1), some (.int p2), some (.int p3), some (.int v4), some (.int p2)]) (stk' := []) rfl rfl rfl ?_
    refine fr_bnd (l1 := (fun (e16 : (Unit)) => sf_p 90 [some (sf_rv p0), some (.int p1), some (.int p2), some (.int p3), some (.int v4), none] [])) (fr_loop (Lb := (fun (b5 : (Int32)) => sf_p 29 [some (sf_rv p0), some (.int p1), some (.int p2), some (.int p3), some (.int v4), some (.int b5)] [])) (fun b5 => ?_) _ _) (fun e16 => ?_)
    · refine fp_iload (i := 5) (x := b5) dd_Mo_laysLine_29 rfl (fr_pc (pc' := 31) rfl ?_)
      refine fp_iload_n (i := 3) (x := p3) dd_Mo_laysLine_31 rfl rfl (fr_pc (pc' := 32) rfl ?_)
      refine fp_iload (i := 4) (x := v4) dd_Mo_laysLine_32 rfl (fr_pc (pc' := 34) rfl ?_)
      refine fp_iadd dd_Mo_laysLine_34 (fr_pc (pc' := 35) rfl ?_)
      refine fr_icmp_eq (tgt := 90) dd_Mo_laysLine_35 rfl (fun _ => ?_) (fun _ => ?_)
      · refine fr_wk [true, true, true, true, true, false] ?_
        exact fr_ret rfl
      · refine fr_pc (pc' := 38) rfl ?_
        refine fp_aload_n (i := 0) (r := p0) dd_Mo_laysLine_38 rfl rfl (fr_pc (pc' := 39) rfl ?_)
        refine fr_gR cl_11 2 (by decide) rfl sw_1074 dd_Mo_laysLine_39 (fun x7 => fr_pc (pc' := 42) rfl ?_)
        refine fp_sipush (v := (195 : Int32)) dd_Mo_laysLine_42 (by decide) (fr_pc (pc' := 45) rfl ?_)
        refine fp_iload_n (i := 1) (x := p1) dd_Mo_laysLine_45 rfl rfl (fr_pc (pc' := 46) rfl ?_)
        refine fp_iadd dd_Mo_laysLine_46 (fr_pc (pc' := 47) rfl ?_)
        refine fr_aI0 dd_Mo_laysLine_47 (fun x8 => fr_pc (pc' := 48) rfl ?_)
        refine fp_iload (i := 5) (x := b5) dd_Mo_laysLine_48 rfl (fr_pc (pc' := 50) rfl ?_)
        refine fr_callS (stk := []) (ok_Mo_isIn x8 b5) mt_Mo_isIn rfl rfl sw_1520 sw_1521 (by decide) (Nat.le_of_ble_eq_true rfl) dd_Mo_laysLine_50 (fun x9 => fr_to (pc' := 53) (env' := [some (sf_rv p0), some (.int p1), some (.int p2), some (.int p3), some (.int v4), some (.int b5)]) (stk' := [.int x9]) rfl rfl rfl ?_)
        refine fr_if_ne (tgt := 59) dd_Mo_laysLine_53 rfl (fun _ => ?_) (fun _ => ?_)
        · refine fr_pc (pc' := 56) rfl ?_
          refine fp_goto (tgt := 80) dd_Mo_laysLine_56 rfl ?_
          refine fp_iload (i := 5) (x := b5) dd_Mo_laysLine_80 rfl (fr_pc (pc' := 82) rfl ?_)
          refine fp_iload (i := 4) (x := v4) dd_Mo_laysLine_82 rfl (fr_pc (pc' := 84) rfl ?_)
          refine fp_iadd dd_Mo_laysLine_84 (fr_pc (pc' := 85) rfl ?_)
          refine fr_nistore (i := 5) dd_Mo_laysLine_85 (Nat.le_of_ble_eq_true rfl) (fun _ => c1_i rfl) (fun y11 => fr_to (pc' := 87) (env' := [some (sf_rv p0), some (.int p1), some (.int p2), some (.int p3), some (.int v4), some (.int y11)]) (stk' := []) rfl rfl rfl ?_)
          refine fp_goto (tgt := 29) dd_Mo_laysLine_87 rfl ?_
          exact fr_ret rfl
        · refine fp_aload_n (i := 0) (r := p0) dd_Mo_laysLine_59 rfl rfl (fr_pc (pc' := 60) rfl ?_)
          refine fr_gR cl_11 29 (by decide) rfl sw_1101 dd_Mo_laysLine_60 (fun x12 => fr_pc (pc' := 63) rfl ?_)
          refine fp_aload_n (i := 0) (r := p0) dd_Mo_laysLine_63 rfl rfl (fr_pc (pc' := 64) rfl ?_)
          refine fr_gI cl_11 30 (by decide) rfl sw_1102 dd_Mo_laysLine_64 (fun x13 => fr_pc (pc' := 67) rfl ?_)
          refine fp_iload (i := 5) (x := b5) dd_Mo_laysLine_67 rfl (fr_pc (pc' := 69) rfl ?_)
          refine fr_sI0 dd_Mo_laysLine_69 (fr_pc (pc' := 70) rfl ?_)
          refine fp_aload_n (i := 0) (r := p0) dd_Mo_laysLine_70 rfl rfl (fr_pc (pc' := 71) rfl ?_)
          refine fp_dup_r dd_Mo_laysLine_71 (fr_pc (pc' := 72) rfl ?_)
          refine fr_gI cl_11 30 (by decide) rfl sw_1102 dd_Mo_laysLine_72 (fun x14 => fr_pc (pc' := 75) rfl ?_)
          refine fp_iconst (v := (1 : Int32)) dd_Mo_laysLine_75 (by decide) (fr_pc (pc' := 76) rfl ?_)
          refine fp_iadd dd_Mo_laysLine_76 (fr_pc (pc' := 77) rfl ?_)
          refine fr_pI cl_11 30 (by decide) rfl sw_1102 rfl ⟨rfl, rfl⟩ dd_Mo_laysLine_77 (fr_pc (pc' := 80) rfl ?_)
          refine fp_iload (i := 5) (x := b5) dd_Mo_laysLine_80 rfl (fr_pc (pc' := 82) rfl ?_)
          refine fp_iload (i := 4) (x := v4) dd_Mo_laysLine_82 rfl (fr_pc (pc' := 84) rfl ?_)
          refine fp_iadd dd_Mo_laysLine_84 (fr_pc (pc' := 85) rfl ?_)
          refine fr_nistore (i := 5) dd_Mo_laysLine_85 (Nat.le_of_ble_eq_true rfl) (fun _ => c1_i rfl) (fun y15 => fr_to (pc' := 87) (env' := [some (sf_rv p0), some (.int p1), some (.int p2), some (.int p3), some (.int v4), some (.int y15)]) (stk' := []) rfl rfl rfl ?_)
          refine fp_goto (tgt := 29) dd_Mo_laysLine_87 rfl ?_
          exact fr_ret rfl
    · exact fr_vret rfl rfl dd_Mo_laysLine_90
theorem mt_Mo_laysSingles : sf_Mt ({ cls := "SplitFaresModel", name := "laysSingles", desc := "(I)V" } : Jvm.MethodName) prog_13_method_81_code 4 none 1 := ⟨sw_1534, sw_12, ⟨by decide, by decide, by decide +kernel⟩, by decide⟩
theorem dd_Mo_laysSingles_0 : decode prog_13_method_81_code 0 = .ok (.iconst 0, 1) := by decide +kernel
theorem dd_Mo_laysSingles_1 : decode prog_13_method_81_code 1 = .ok (.istore_n 2, 1) := by decide +kernel
theorem dd_Mo_laysSingles_2 : decode prog_13_method_81_code 2 = .ok (.iload_n 2, 1) := by decide +kernel
theorem dd_Mo_laysSingles_3 : decode prog_13_method_81_code 3 = .ok (.aload_n 0, 1) := by decide +kernel
theorem dd_Mo_laysSingles_4 : decode prog_13_method_81_code 4 = .ok (.getfield 345, 3) := by decide +kernel
theorem dd_Mo_laysSingles_7 : decode prog_13_method_81_code 7 = .ok (.if_icmp .ge 81, 3) := by decide +kernel
theorem dd_Mo_laysSingles_10 : decode prog_13_method_81_code 10 = .ok (.iload_n 2, 1) := by decide +kernel
theorem dd_Mo_laysSingles_11 : decode prog_13_method_81_code 11 = .ok (.iconst 1, 1) := by decide +kernel
theorem dd_Mo_laysSingles_12 : decode prog_13_method_81_code 12 = .ok (.iadd, 1) := by decide +kernel
theorem dd_Mo_laysSingles_13 : decode prog_13_method_81_code 13 = .ok (.istore_n 3, 1) := by decide +kernel
theorem dd_Mo_laysSingles_14 : decode prog_13_method_81_code 14 = .ok (.iload_n 3, 1) := by decide +kernel
theorem dd_Mo_laysSingles_15 : decode prog_13_method_81_code 15 = .ok (.aload_n 0, 1) := by decide +kernel
theorem dd_Mo_laysSingles_16 : decode prog_13_method_81_code 16 = .ok (.getfield 345, 3) := by decide +kernel
theorem dd_Mo_laysSingles_19 : decode prog_13_method_81_code 19 = .ok (.if_icmp .ge 63, 3) := by decide +kernel
theorem dd_Mo_laysSingles_22 : decode prog_13_method_81_code 22 = .ok (.aload_n 0, 1) := by decide +kernel
theorem dd_Mo_laysSingles_23 : decode prog_13_method_81_code 23 = .ok (.getfield 73, 3) := by decide +kernel
theorem dd_Mo_laysSingles_26 : decode prog_13_method_81_code 26 = .ok (.iload_n 2, 1) := by decide +kernel
theorem dd_Mo_laysSingles_27 : decode prog_13_method_81_code 27 = .ok (.iload_n 3, 1) := by decide +kernel
theorem dd_Mo_laysSingles_28 : decode prog_13_method_81_code 28 = .ok (.invokestatic 135, 3) := by decide +kernel
theorem dd_Mo_laysSingles_31 : decode prog_13_method_81_code 31 = .ok (.aload_n 0, 1) := by decide +kernel
theorem dd_Mo_laysSingles_32 : decode prog_13_method_81_code 32 = .ok (.iload_n 1, 1) := by decide +kernel
theorem dd_Mo_laysSingles_33 : decode prog_13_method_81_code 33 = .ok (.iconst 0, 1) := by decide +kernel
theorem dd_Mo_laysSingles_34 : decode prog_13_method_81_code 34 = .ok (.aload_n 0, 1) := by decide +kernel
theorem dd_Mo_laysSingles_35 : decode prog_13_method_81_code 35 = .ok (.getfield 70, 3) := by decide +kernel
theorem dd_Mo_laysSingles_38 : decode prog_13_method_81_code 38 = .ok (.iload_n 2, 1) := by decide +kernel
theorem dd_Mo_laysSingles_39 : decode prog_13_method_81_code 39 = .ok (.iaload, 1) := by decide +kernel
theorem dd_Mo_laysSingles_40 : decode prog_13_method_81_code 40 = .ok (.aload_n 0, 1) := by decide +kernel
theorem dd_Mo_laysSingles_41 : decode prog_13_method_81_code 41 = .ok (.getfield 70, 3) := by decide +kernel
theorem dd_Mo_laysSingles_44 : decode prog_13_method_81_code 44 = .ok (.iload_n 3, 1) := by decide +kernel
theorem dd_Mo_laysSingles_45 : decode prog_13_method_81_code 45 = .ok (.iaload, 1) := by decide +kernel
theorem dd_Mo_laysSingles_46 : decode prog_13_method_81_code 46 = .ok (.invokevirtual 335, 3) := by decide +kernel
theorem dd_Mo_laysSingles_49 : decode prog_13_method_81_code 49 = .ok (.ifCond .eq 9, 3) := by decide +kernel
theorem dd_Mo_laysSingles_52 : decode prog_13_method_81_code 52 = .ok (.ldc_w 348, 3) := by decide +kernel
theorem dd_Mo_laysSingles_55 : decode prog_13_method_81_code 55 = .ok (.goto 20, 3) := by decide +kernel
theorem dd_Mo_laysSingles_58 : decode prog_13_method_81_code 58 = .ok (.aload_n 0, 1) := by decide +kernel
theorem dd_Mo_laysSingles_59 : decode prog_13_method_81_code 59 = .ok (.iconst 0, 1) := by decide +kernel
theorem dd_Mo_laysSingles_60 : decode prog_13_method_81_code 60 = .ok (.aload_n 0, 1) := by decide +kernel
theorem dd_Mo_laysSingles_61 : decode prog_13_method_81_code 61 = .ok (.getfield 70, 3) := by decide +kernel
theorem dd_Mo_laysSingles_64 : decode prog_13_method_81_code 64 = .ok (.iload_n 2, 1) := by decide +kernel
theorem dd_Mo_laysSingles_65 : decode prog_13_method_81_code 65 = .ok (.iaload, 1) := by decide +kernel
theorem dd_Mo_laysSingles_66 : decode prog_13_method_81_code 66 = .ok (.aload_n 0, 1) := by decide +kernel
theorem dd_Mo_laysSingles_67 : decode prog_13_method_81_code 67 = .ok (.getfield 70, 3) := by decide +kernel
theorem dd_Mo_laysSingles_70 : decode prog_13_method_81_code 70 = .ok (.iload_n 3, 1) := by decide +kernel
theorem dd_Mo_laysSingles_71 : decode prog_13_method_81_code 71 = .ok (.iaload, 1) := by decide +kernel
theorem dd_Mo_laysSingles_72 : decode prog_13_method_81_code 72 = .ok (.invokevirtual 339, 3) := by decide +kernel
theorem dd_Mo_laysSingles_75 : decode prog_13_method_81_code 75 = .ok (.iastore, 1) := by decide +kernel
theorem dd_Mo_laysSingles_76 : decode prog_13_method_81_code 76 = .ok (.iinc 3 1, 3) := by decide +kernel
theorem dd_Mo_laysSingles_79 : decode prog_13_method_81_code 79 = .ok (.goto (-65), 3) := by decide +kernel
theorem dd_Mo_laysSingles_82 : decode prog_13_method_81_code 82 = .ok (.iinc 2 1, 3) := by decide +kernel
theorem dd_Mo_laysSingles_85 : decode prog_13_method_81_code 85 = .ok (.goto (-83), 3) := by decide +kernel
theorem dd_Mo_laysSingles_88 : decode prog_13_method_81_code 88 = .ok (.return_, 1) := by decide +kernel
def jx_Mo_laysSingles (p0 : Option Nat) (p1 : Int32) : sf_M (Unit) :=
  sf_bnd (sf_loop (β := (Int32)) (γ := (Unit)) (fun b1 =>
  sf_bnd (sf_gI 11 30 p0) fun x2 =>
  if x2 ≤ b1 then (
  sf_ret (.inr ())
  ) else (
  sf_bnd (sf_ret ((b1 + (1 : Int32)))) fun y4 =>
  sf_bnd (sf_loop (β := (Int32)) (γ := (Unit)) (fun b5 =>
  sf_bnd (sf_gI 11 30 p0) fun x6 =>
  if x6 ≤ b5 then (
  sf_ret (.inr ())
  ) else (
  sf_bnd (sf_gR 11 31 p0) fun x8 =>
  sf_bnd (jx_Mo_pairAt b1 b5) fun x9 =>
  sf_bnd (sf_gR 11 29 p0) fun x10 =>
  sf_bnd (sf_aI 0 x10 b1) fun x11 =>
  sf_bnd (sf_gR 11 29 p0) fun x12 =>
  sf_bnd (sf_aI 0 x12 b5) fun x13 =>
  sf_bnd (sf_rc 11 p0 (jx_Mo_barredFrom p0 p1 (0 : Int32) x11 x13)) fun x14 =>
  sf_bnd (α := (Int32)) (
  if x14 = 0 then (
  sf_bnd (sf_gR 11 29 p0) fun x16 =>
  sf_bnd (sf_aI 0 x16 b1) fun x17 =>
  sf_bnd (sf_gR 11 29 p0) fun x18 =>
  sf_bnd (sf_aI 0 x18 b5) fun x19 =>
  sf_bnd (sf_rc 11 p0 (jx_Mo_costOf p0 (0 : Int32) x17 x19)) fun x20 =>
  sf_ret x20
  ) else (
  sf_ret (100000000 : Int32)
  )
  ) (fun v21 =>
  sf_bnd (sf_sI 0 x8 x9 v21) fun _ =>
  sf_bnd (sf_ret (b5 + (1 : Int32))) fun y22 =>
  sf_ret (.inl y22)
  )
  )
  ) sf_fuel y4) (fun e23 =>
  sf_bnd (sf_ret (b1 + (1 : Int32))) fun y24 =>
  sf_ret (.inl y24)
  )
  )
  ) sf_fuel (0 : Int32)) (fun e25 =>
  sf_ret ()
  )
set_option maxRecDepth 20000 in
set_option maxHeartbeats 4000000 in
theorem ok_Mo_laysSingles (p0 : Option Nat) (p1 : Int32) : sf_Ok ({ cls := "SplitFaresModel", name := "laysSingles", desc := "(I)V" } : Jvm.MethodName) prog_13_method_81_code 4 none 207 [sf_rv p0, .int p1] (jx_Mo_laysSingles p0 p1) (fun _ => none) := by
  refine sf_Ok.of (env := [some (sf_rv p0), some (.int p1), none, none]) (plainFor_of_name (by decide)) [false, false] (fun G => ⟨pk_r, pk_i, trivial⟩) (Nat.le_of_ble_eq_true rfl) rfl (fun X => ?_)
  unfold jx_Mo_laysSingles
  refine fp_iconst (v := (0 : Int32)) dd_Mo_laysSingles_0 (by decide) (fr_pc (pc' := 1) rfl ?_)
  refine fp_istore_n (i := 2) dd_Mo_laysSingles_1 rfl (Nat.le_of_ble_eq_true rfl) (fun _ => c1_i rfl) (fr_to (pc' := 2) (env' := [some (sf_rv p0), some (.int p1), some (.int (0 : Int32)), none]) (stk' := []) rfl rfl rfl ?_)
  refine fr_to (pc' := 2) (env' := [some (sf_rv p0), some (.int p1), some (.int (0 : Int32)), none]) (stk' := []) rfl rfl rfl ?_
  refine fr_bnd (l1 := (fun (e25 : (Unit)) => sf_p 88 [some (sf_rv p0), some (.int p1), none, none] [])) (fr_loop (Lb := (fun (b1 : (Int32)) => sf_p 2 [some (sf_rv p0), some (.int p1), some (.int b1), none] [])) (fun b1 => ?_) _ _) (fun e25 => ?_)
  · refine fp_iload_n (i := 2) (x := b1) dd_Mo_laysSingles_2 rfl rfl (fr_pc (pc' := 3) rfl ?_)
    refine fp_aload_n (i := 0) (r := p0) dd_Mo_laysSingles_3 rfl rfl (fr_pc (pc' := 4) rfl ?_)
    refine fr_gI cl_11 30 (by decide) rfl sw_1102 dd_Mo_laysSingles_4 (fun x2 => fr_pc (pc' := 7) rfl ?_)
    refine fr_icmp_ge (tgt := 88) dd_Mo_laysSingles_7 rfl (fun _ => ?_) (fun _ => ?_)
    · refine fr_wk [true, true, false, false] ?_
      exact fr_ret rfl
    · refine fr_pc (pc' := 10) rfl ?_
      refine fp_iload_n (i := 2) (x := b1) dd_Mo_laysSingles_10 rfl rfl (fr_pc (pc' := 11) rfl ?_)
      refine fp_iconst (v := (1 : Int32)) dd_Mo_laysSingles_11 (by decide) (fr_pc (pc' := 12) rfl ?_)
      refine fp_iadd dd_Mo_laysSingles_12 (fr_pc (pc' := 13) rfl ?_)
      refine fr_nistore_n (i := 3) dd_Mo_laysSingles_13 rfl (Nat.le_of_ble_eq_true rfl) (fun _ => c1_i rfl) (fun y4 => fr_to (pc' := 14) (env' := [some (sf_rv p0), some (.int p1), some (.int b1), some (.int y4)]) (stk' := []) rfl rfl rfl ?_)
      refine fr_to (pc' := 14) (env' := [some (sf_rv p0), some (.int p1), some (.int b1), some (.int y4)]) (stk' := []) rfl rfl rfl ?_
      refine fr_bnd (l1 := (fun (e23 : (Unit)) => sf_p 82 [some (sf_rv p0), some (.int p1), some (.int b1), none] [])) (fr_loop (Lb := (fun (b5 : (Int32)) => sf_p 14 [some (sf_rv p0), some (.int p1), some (.int b1), some (.int b5)] [])) (fun b5 => ?_) _ _) (fun e23 => ?_)
      · refine fp_iload_n (i := 3) (x := b5) dd_Mo_laysSingles_14 rfl rfl (fr_pc (pc' := 15) rfl ?_)
        refine fp_aload_n (i := 0) (r := p0) dd_Mo_laysSingles_15 rfl rfl (fr_pc (pc' := 16) rfl ?_)
        refine fr_gI cl_11 30 (by decide) rfl sw_1102 dd_Mo_laysSingles_16 (fun x6 => fr_pc (pc' := 19) rfl ?_)
        refine fr_icmp_ge (tgt := 82) dd_Mo_laysSingles_19 rfl (fun _ => ?_) (fun _ => ?_)
        · refine fr_wk [true, true, true, false] ?_
          exact fr_ret rfl
        · refine fr_pc (pc' := 22) rfl ?_
          refine fp_aload_n (i := 0) (r := p0) dd_Mo_laysSingles_22 rfl rfl (fr_pc (pc' := 23) rfl ?_)
          refine fr_gR cl_11 31 (by decide) rfl sw_1103 dd_Mo_laysSingles_23 (fun x8 => fr_pc (pc' := 26) rfl ?_)
          refine fp_iload_n (i := 2) (x := b1) dd_Mo_laysSingles_26 rfl rfl (fr_pc (pc' := 27) rfl ?_)
          refine fp_iload_n (i := 3) (x := b5) dd_Mo_laysSingles_27 rfl rfl (fr_pc (pc' := 28) rfl ?_)
          refine fr_callS (stk := [sf_rv x8]) (ok_Mo_pairAt b1 b5) mt_Mo_pairAt rfl rfl sw_1291 sw_1292 (by decide) (Nat.le_of_ble_eq_true rfl) dd_Mo_laysSingles_28 (fun x9 => fr_to (pc' := 31) (env' := [some (sf_rv p0), some (.int p1), some (.int b1), some (.int b5)]) (stk' := [.int x9, sf_rv x8]) rfl rfl rfl ?_)
          refine fp_aload_n (i := 0) (r := p0) dd_Mo_laysSingles_31 rfl rfl (fr_pc (pc' := 32) rfl ?_)
          refine fp_iload_n (i := 1) (x := p1) dd_Mo_laysSingles_32 rfl rfl (fr_pc (pc' := 33) rfl ?_)
          refine fp_iconst (v := (0 : Int32)) dd_Mo_laysSingles_33 (by decide) (fr_pc (pc' := 34) rfl ?_)
          refine fp_aload_n (i := 0) (r := p0) dd_Mo_laysSingles_34 rfl rfl (fr_pc (pc' := 35) rfl ?_)
          refine fr_gR cl_11 29 (by decide) rfl sw_1101 dd_Mo_laysSingles_35 (fun x10 => fr_pc (pc' := 38) rfl ?_)
          refine fp_iload_n (i := 2) (x := b1) dd_Mo_laysSingles_38 rfl rfl (fr_pc (pc' := 39) rfl ?_)
          refine fr_aI0 dd_Mo_laysSingles_39 (fun x11 => fr_pc (pc' := 40) rfl ?_)
          refine fp_aload_n (i := 0) (r := p0) dd_Mo_laysSingles_40 rfl rfl (fr_pc (pc' := 41) rfl ?_)
          refine fr_gR cl_11 29 (by decide) rfl sw_1101 dd_Mo_laysSingles_41 (fun x12 => fr_pc (pc' := 44) rfl ?_)
          refine fp_iload_n (i := 3) (x := b5) dd_Mo_laysSingles_44 rfl rfl (fr_pc (pc' := 45) rfl ?_)
          refine fr_aI0 dd_Mo_laysSingles_45 (fun x13 => fr_pc (pc' := 46) rfl ?_)
          refine fr_callV (stk := [.int x9, sf_rv x8]) (As := [.int p1, .int (0 : Int32), .int x11, .int x13]) cl_11 (ok_Mo_barredFrom p0 p1 (0 : Int32) x11 x13) mt_Mo_barredFrom rfl rfl sw_1504 sw_1506 sp_69 (by decide) (Nat.le_of_ble_eq_true rfl) dd_Mo_laysSingles_46 (fun x14 => fr_to (pc' := 49) (env' := [some (sf_rv p0), some (.int p1), some (.int b1), some (.int b5)]) (stk' := [.int x14, .int x9, sf_rv x8]) rfl rfl rfl ?_)
          refine fr_bnd (l1 := (fun (v21 : (Int32)) => sf_p 75 [some (sf_rv p0), some (.int p1), some (.int b1), some (.int b5)] [.int v21, .int x9, sf_rv x8])) ?_ (fun v21 => ?_)
          · refine fr_if_eq (tgt := 58) dd_Mo_laysSingles_49 rfl (fun _ => ?_) (fun _ => ?_)
            · refine fp_aload_n (i := 0) (r := p0) dd_Mo_laysSingles_58 rfl rfl (fr_pc (pc' := 59) rfl ?_)
              refine fp_iconst (v := (0 : Int32)) dd_Mo_laysSingles_59 (by decide) (fr_pc (pc' := 60) rfl ?_)
              refine fp_aload_n (i := 0) (r := p0) dd_Mo_laysSingles_60 rfl rfl (fr_pc (pc' := 61) rfl ?_)
              refine fr_gR cl_11 29 (by decide) rfl sw_1101 dd_Mo_laysSingles_61 (fun x16 => fr_pc (pc' := 64) rfl ?_)
              refine fp_iload_n (i := 2) (x := b1) dd_Mo_laysSingles_64 rfl rfl (fr_pc (pc' := 65) rfl ?_)
              refine fr_aI0 dd_Mo_laysSingles_65 (fun x17 => fr_pc (pc' := 66) rfl ?_)
              refine fp_aload_n (i := 0) (r := p0) dd_Mo_laysSingles_66 rfl rfl (fr_pc (pc' := 67) rfl ?_)
              refine fr_gR cl_11 29 (by decide) rfl sw_1101 dd_Mo_laysSingles_67 (fun x18 => fr_pc (pc' := 70) rfl ?_)
              refine fp_iload_n (i := 3) (x := b5) dd_Mo_laysSingles_70 rfl rfl (fr_pc (pc' := 71) rfl ?_)
              refine fr_aI0 dd_Mo_laysSingles_71 (fun x19 => fr_pc (pc' := 72) rfl ?_)
              refine fr_callV (stk := [.int x9, sf_rv x8]) (As := [.int (0 : Int32), .int x17, .int x19]) cl_11 (ok_Mo_costOf p0 (0 : Int32) x17 x19) mt_Mo_costOf rfl rfl sw_1430 sw_1432 sp_53 (by decide) (Nat.le_of_ble_eq_true rfl) dd_Mo_laysSingles_72 (fun x20 => fr_to (pc' := 75) (env' := [some (sf_rv p0), some (.int p1), some (.int b1), some (.int b5)]) (stk' := [.int x20, .int x9, sf_rv x8]) rfl rfl rfl ?_)
              exact fr_ret rfl
            · refine fr_pc (pc' := 52) rfl ?_
              refine fp_ldcw (v := (100000000 : Int32)) dd_Mo_laysSingles_52 sw_1535 (fr_pc (pc' := 55) rfl ?_)
              refine fp_goto (tgt := 75) dd_Mo_laysSingles_55 rfl ?_
              exact fr_ret rfl
          · refine fr_sI0 dd_Mo_laysSingles_75 (fr_pc (pc' := 76) rfl ?_)
            refine fr_niinc (i := 3) (x := b5) (w := (1 : Int32)) dd_Mo_laysSingles_76 rfl (by decide) (Nat.le_of_ble_eq_true rfl) (fun _ => c1_i rfl) (fun y22 => fr_to (pc' := 79) (env' := [some (sf_rv p0), some (.int p1), some (.int b1), some (.int y22)]) (stk' := []) rfl rfl rfl ?_)
            refine fp_goto (tgt := 14) dd_Mo_laysSingles_79 rfl ?_
            exact fr_ret rfl
      · refine fr_niinc (i := 2) (x := b1) (w := (1 : Int32)) dd_Mo_laysSingles_82 rfl (by decide) (Nat.le_of_ble_eq_true rfl) (fun _ => c1_i rfl) (fun y24 => fr_to (pc' := 85) (env' := [some (sf_rv p0), some (.int p1), some (.int y24), none]) (stk' := []) rfl rfl rfl ?_)
        refine fp_goto (tgt := 2) dd_Mo_laysSingles_85 rfl ?_
        exact fr_ret rfl
  · exact fr_vret rfl rfl dd_Mo_laysSingles_88
theorem mt_Mo_sortFor : sf_Mt ({ cls := "SplitFaresModel", name := "sortFor", desc := "(III)I" } : Jvm.MethodName) prog_13_method_83_code 4 (some .int) 3 := ⟨sw_1659, sw_12, ⟨by decide, by decide, by decide +kernel⟩, by decide⟩
theorem dd_Mo_sortFor_0 : decode prog_13_method_83_code 0 = .ok (.aload_n 0, 1) := by decide +kernel
theorem dd_Mo_sortFor_1 : decode prog_13_method_83_code 1 = .ok (.getfield 32, 3) := by decide +kernel
theorem dd_Mo_sortFor_4 : decode prog_13_method_83_code 4 = .ok (.iconst 0, 1) := by decide +kernel
theorem dd_Mo_sortFor_5 : decode prog_13_method_83_code 5 = .ok (.iload_n 2, 1) := by decide +kernel
theorem dd_Mo_sortFor_6 : decode prog_13_method_83_code 6 = .ok (.iload_n 3, 1) := by decide +kernel
theorem dd_Mo_sortFor_7 : decode prog_13_method_83_code 7 = .ok (.invokestatic 143, 3) := by decide +kernel
theorem dd_Mo_sortFor_10 : decode prog_13_method_83_code 10 = .ok (.iaload, 1) := by decide +kernel
theorem dd_Mo_sortFor_11 : decode prog_13_method_83_code 11 = .ok (.ifCond .le 16, 3) := by decide +kernel
theorem dd_Mo_sortFor_14 : decode prog_13_method_83_code 14 = .ok (.aload_n 0, 1) := by decide +kernel
theorem dd_Mo_sortFor_15 : decode prog_13_method_83_code 15 = .ok (.iload_n 1, 1) := by decide +kernel
theorem dd_Mo_sortFor_16 : decode prog_13_method_83_code 16 = .ok (.iconst 0, 1) := by decide +kernel
theorem dd_Mo_sortFor_17 : decode prog_13_method_83_code 17 = .ok (.iload_n 2, 1) := by decide +kernel
theorem dd_Mo_sortFor_18 : decode prog_13_method_83_code 18 = .ok (.iload_n 3, 1) := by decide +kernel
theorem dd_Mo_sortFor_19 : decode prog_13_method_83_code 19 = .ok (.invokevirtual 352, 3) := by decide +kernel
theorem dd_Mo_sortFor_22 : decode prog_13_method_83_code 22 = .ok (.ifCond .ne 5, 3) := by decide +kernel
theorem dd_Mo_sortFor_25 : decode prog_13_method_83_code 25 = .ok (.iconst 0, 1) := by decide +kernel
theorem dd_Mo_sortFor_26 : decode prog_13_method_83_code 26 = .ok (.ireturn, 1) := by decide +kernel
theorem dd_Mo_sortFor_27 : decode prog_13_method_83_code 27 = .ok (.aload_n 0, 1) := by decide +kernel
theorem dd_Mo_sortFor_28 : decode prog_13_method_83_code 28 = .ok (.getfield 32, 3) := by decide +kernel
theorem dd_Mo_sortFor_31 : decode prog_13_method_83_code 31 = .ok (.iconst 2, 1) := by decide +kernel
theorem dd_Mo_sortFor_32 : decode prog_13_method_83_code 32 = .ok (.iload_n 2, 1) := by decide +kernel
theorem dd_Mo_sortFor_33 : decode prog_13_method_83_code 33 = .ok (.iload_n 3, 1) := by decide +kernel
theorem dd_Mo_sortFor_34 : decode prog_13_method_83_code 34 = .ok (.invokestatic 143, 3) := by decide +kernel
theorem dd_Mo_sortFor_37 : decode prog_13_method_83_code 37 = .ok (.iaload, 1) := by decide +kernel
theorem dd_Mo_sortFor_38 : decode prog_13_method_83_code 38 = .ok (.ifCond .le 16, 3) := by decide +kernel
theorem dd_Mo_sortFor_41 : decode prog_13_method_83_code 41 = .ok (.aload_n 0, 1) := by decide +kernel
theorem dd_Mo_sortFor_42 : decode prog_13_method_83_code 42 = .ok (.iload_n 1, 1) := by decide +kernel
theorem dd_Mo_sortFor_43 : decode prog_13_method_83_code 43 = .ok (.iconst 2, 1) := by decide +kernel
theorem dd_Mo_sortFor_44 : decode prog_13_method_83_code 44 = .ok (.iload_n 2, 1) := by decide +kernel
theorem dd_Mo_sortFor_45 : decode prog_13_method_83_code 45 = .ok (.iload_n 3, 1) := by decide +kernel
theorem dd_Mo_sortFor_46 : decode prog_13_method_83_code 46 = .ok (.invokevirtual 352, 3) := by decide +kernel
theorem dd_Mo_sortFor_49 : decode prog_13_method_83_code 49 = .ok (.ifCond .ne 5, 3) := by decide +kernel
theorem dd_Mo_sortFor_52 : decode prog_13_method_83_code 52 = .ok (.iconst 2, 1) := by decide +kernel
theorem dd_Mo_sortFor_53 : decode prog_13_method_83_code 53 = .ok (.ireturn, 1) := by decide +kernel
theorem dd_Mo_sortFor_54 : decode prog_13_method_83_code 54 = .ok (.aload_n 0, 1) := by decide +kernel
theorem dd_Mo_sortFor_55 : decode prog_13_method_83_code 55 = .ok (.getfield 32, 3) := by decide +kernel
theorem dd_Mo_sortFor_58 : decode prog_13_method_83_code 58 = .ok (.iconst 1, 1) := by decide +kernel
theorem dd_Mo_sortFor_59 : decode prog_13_method_83_code 59 = .ok (.iload_n 2, 1) := by decide +kernel
theorem dd_Mo_sortFor_60 : decode prog_13_method_83_code 60 = .ok (.iload_n 3, 1) := by decide +kernel
theorem dd_Mo_sortFor_61 : decode prog_13_method_83_code 61 = .ok (.invokestatic 143, 3) := by decide +kernel
theorem dd_Mo_sortFor_64 : decode prog_13_method_83_code 64 = .ok (.iaload, 1) := by decide +kernel
theorem dd_Mo_sortFor_65 : decode prog_13_method_83_code 65 = .ok (.ifCond .le 18, 3) := by decide +kernel
theorem dd_Mo_sortFor_68 : decode prog_13_method_83_code 68 = .ok (.aload_n 0, 1) := by decide +kernel
theorem dd_Mo_sortFor_69 : decode prog_13_method_83_code 69 = .ok (.iload_n 1, 1) := by decide +kernel
theorem dd_Mo_sortFor_70 : decode prog_13_method_83_code 70 = .ok (.iconst 1, 1) := by decide +kernel
theorem dd_Mo_sortFor_71 : decode prog_13_method_83_code 71 = .ok (.iload_n 2, 1) := by decide +kernel
theorem dd_Mo_sortFor_72 : decode prog_13_method_83_code 72 = .ok (.iload_n 3, 1) := by decide +kernel
theorem dd_Mo_sortFor_73 : decode prog_13_method_83_code 73 = .ok (.invokevirtual 352, 3) := by decide +kernel
theorem dd_Mo_sortFor_76 : decode prog_13_method_83_code 76 = .ok (.ifCond .ne 7, 3) := by decide +kernel
theorem dd_Mo_sortFor_79 : decode prog_13_method_83_code 79 = .ok (.iconst 1, 1) := by decide +kernel
theorem dd_Mo_sortFor_80 : decode prog_13_method_83_code 80 = .ok (.goto 4, 3) := by decide +kernel
theorem dd_Mo_sortFor_83 : decode prog_13_method_83_code 83 = .ok (.iconst (-1), 1) := by decide +kernel
theorem dd_Mo_sortFor_84 : decode prog_13_method_83_code 84 = .ok (.ireturn, 1) := by decide +kernel
def jx_Mo_sortFor (p0 : Option Nat) (p1 : Int32) (p2 : Int32) (p3 : Int32) : sf_M (Int32) :=
  sf_bnd (sf_gR 11 2 p0) fun x1 =>
  sf_bnd (jx_Mo_ticketAt (0 : Int32) p2 p3) fun x2 =>
  sf_bnd (sf_aI 0 x1 x2) fun x3 =>
  sf_or (α := Int32) (β := (Unit)) (
  if x3 ≤ 0 then (
  sf_ret (.inr ())
  ) else (
  sf_bnd (sf_rc 11 p0 (jx_Mo_ticketBarred p0 p1 (0 : Int32) p2 p3)) fun x5 =>
  if x5 = 0 then (
  sf_ret (.inl (0 : Int32))
  ) else (
  sf_ret (.inr ())
  )
  )
  ) (fun v7 =>
  sf_bnd (sf_gR 11 2 p0) fun x8 =>
  sf_bnd (jx_Mo_ticketAt (2 : Int32) p2 p3) fun x9 =>
  sf_bnd (sf_aI 0 x8 x9) fun x10 =>
  sf_or (α := Int32) (β := (Unit)) (
  if x10 ≤ 0 then (
  sf_ret (.inr ())
  ) else (
  sf_bnd (sf_rc 11 p0 (jx_Mo_ticketBarred p0 p1 (2 : Int32) p2 p3)) fun x12 =>
  if x12 = 0 then (
  sf_ret (.inl (2 : Int32))
  ) else (
  sf_ret (.inr ())
  )
  )
  ) (fun v14 =>
  sf_bnd (sf_gR 11 2 p0) fun x15 =>
  sf_bnd (jx_Mo_ticketAt (1 : Int32) p2 p3) fun x16 =>
  sf_bnd (sf_aI 0 x15 x16) fun x17 =>
  if x17 ≤ 0 then (
  sf_ret (-1 : Int32)
  ) else (
  sf_bnd (sf_rc 11 p0 (jx_Mo_ticketBarred p0 p1 (1 : Int32) p2 p3)) fun x19 =>
  if x19 = 0 then (
  sf_ret (1 : Int32)
  ) else (
  sf_ret (-1 : Int32)
  )
  )
  )
  )
set_option maxRecDepth 20000 in
set_option maxHeartbeats 4000000 in
theorem ok_Mo_sortFor (p0 : Option Nat) (p1 : Int32) (p2 : Int32) (p3 : Int32) : sf_Ok ({ cls := "SplitFaresModel", name := "sortFor", desc := "(III)I" } : Jvm.MethodName) prog_13_method_83_code 4 (some .int) 208 [sf_rv p0, .int p1, .int p2, .int p3] (jx_Mo_sortFor p0 p1 p2 p3) (fun r => some (.int r)) := by
  refine sf_Ok.of (env := [some (sf_rv p0), some (.int p1), some (.int p2), some (.int p3)]) (plainFor_of_name (by decide)) [false, false, false, false] (fun G => ⟨pk_r, pk_i, pk_i, pk_i, trivial⟩) (Nat.le_of_ble_eq_true rfl) rfl (fun X => ?_)
  unfold jx_Mo_sortFor
  refine fp_aload_n (i := 0) (r := p0) dd_Mo_sortFor_0 rfl rfl (fr_pc (pc' := 1) rfl ?_)
  refine fr_gR cl_11 2 (by decide) rfl sw_1074 dd_Mo_sortFor_1 (fun x1 => fr_pc (pc' := 4) rfl ?_)
  refine fp_iconst (v := (0 : Int32)) dd_Mo_sortFor_4 (by decide) (fr_pc (pc' := 5) rfl ?_)
  refine fp_iload_n (i := 2) (x := p2) dd_Mo_sortFor_5 rfl rfl (fr_pc (pc' := 6) rfl ?_)
  refine fp_iload_n (i := 3) (x := p3) dd_Mo_sortFor_6 rfl rfl (fr_pc (pc' := 7) rfl ?_)
  refine fr_callS (stk := [sf_rv x1]) (ok_Mo_ticketAt (0 : Int32) p2 p3) mt_Mo_ticketAt rfl rfl sw_1288 sw_1289 (by decide) (Nat.le_of_ble_eq_true rfl) dd_Mo_sortFor_7 (fun x2 => fr_to (pc' := 10) (env' := [some (sf_rv p0), some (.int p1), some (.int p2), some (.int p3)]) (stk' := [.int x2, sf_rv x1]) rfl rfl rfl ?_)
  refine fr_aI0 dd_Mo_sortFor_10 (fun x3 => fr_pc (pc' := 11) rfl ?_)
  refine fr_or (l1 := (fun (v7 : (Unit)) => sf_p 27 [some (sf_rv p0), some (.int p1), some (.int p2), some (.int p3)] [])) ?_ (fun v7 => ?_)
  · refine fr_if_le (tgt := 27) dd_Mo_sortFor_11 rfl (fun _ => ?_) (fun _ => ?_)
    · exact fr_ret rfl
    · refine fr_pc (pc' := 14) rfl ?_
      refine fp_aload_n (i := 0) (r := p0) dd_Mo_sortFor_14 rfl rfl (fr_pc (pc' := 15) rfl ?_)
      refine fp_iload_n (i := 1) (x := p1) dd_Mo_sortFor_15 rfl rfl (fr_pc (pc' := 16) rfl ?_)
      refine fp_iconst (v := (0 : Int32)) dd_Mo_sortFor_16 (by decide) (fr_pc (pc' := 17) rfl ?_)
      refine fp_iload_n (i := 2) (x := p2) dd_Mo_sortFor_17 rfl rfl (fr_pc (pc' := 18) rfl ?_)
      refine fp_iload_n (i := 3) (x := p3) dd_Mo_sortFor_18 rfl rfl (fr_pc (pc' := 19) rfl ?_)
      refine fr_callV (stk := []) (As := [.int p1, .int (0 : Int32), .int p2, .int p3]) cl_11 (ok_Mo_ticketBarred p0 p1 (0 : Int32) p2 p3) mt_Mo_ticketBarred rfl rfl sw_1660 sw_1662 sp_92 (by decide) (Nat.le_of_ble_eq_true rfl) dd_Mo_sortFor_19 (fun x5 => fr_to (pc' := 22) (env' := [some (sf_rv p0), some (.int p1), some (.int p2), some (.int p3)]) (stk' := [.int x5]) rfl rfl rfl ?_)
      refine fr_if_ne (tgt := 27) dd_Mo_sortFor_22 rfl (fun _ => ?_) (fun _ => ?_)
      · refine fr_pc (pc' := 25) rfl ?_
        refine fp_iconst (v := (0 : Int32)) dd_Mo_sortFor_25 (by decide) (fr_pc (pc' := 26) rfl ?_)
        exact fr_iret (v := (0 : Int32)) rfl rfl dd_Mo_sortFor_26
      · exact fr_ret rfl
  · refine fp_aload_n (i := 0) (r := p0) dd_Mo_sortFor_27 rfl rfl (fr_pc (pc' := 28) rfl ?_)
    refine fr_gR cl_11 2 (by decide) rfl sw_1074 dd_Mo_sortFor_28 (fun x8 => fr_pc (pc' := 31) rfl ?_)
    refine fp_iconst (v := (2 : Int32)) dd_Mo_sortFor_31 (by decide) (fr_pc (pc' := 32) rfl ?_)
    refine fp_iload_n (i := 2) (x := p2) dd_Mo_sortFor_32 rfl rfl (fr_pc (pc' := 33) rfl ?_)
    refine fp_iload_n (i := 3) (x := p3) dd_Mo_sortFor_33 rfl rfl (fr_pc (pc' := 34) rfl ?_)
    refine fr_callS (stk := [sf_rv x8]) (ok_Mo_ticketAt (2 : Int32) p2 p3) mt_Mo_ticketAt rfl rfl sw_1288 sw_1289 (by decide) (Nat.le_of_ble_eq_true rfl) dd_Mo_sortFor_34 (fun x9 => fr_to (pc' := 37) (env' := [some (sf_rv p0), some (.int p1), some (.int p2), some (.int p3)]) (stk' := [.int x9, sf_rv x8]) rfl rfl rfl ?_)
    refine fr_aI0 dd_Mo_sortFor_37 (fun x10 => fr_pc (pc' := 38) rfl ?_)
    refine fr_or (l1 := (fun (v14 : (Unit)) => sf_p 54 [some (sf_rv p0), some (.int p1), some (.int p2), some (.int p3)] [])) ?_ (fun v14 => ?_)
    · refine fr_if_le (tgt := 54) dd_Mo_sortFor_38 rfl (fun _ => ?_) (fun _ => ?_)
      · exact fr_ret rfl
      · refine fr_pc (pc' := 41) rfl ?_
        refine fp_aload_n (i := 0) (r := p0) dd_Mo_sortFor_41 rfl rfl (fr_pc (pc' := 42) rfl ?_)
        refine fp_iload_n (i := 1) (x := p1) dd_Mo_sortFor_42 rfl rfl (fr_pc (pc' := 43) rfl ?_)
        refine fp_iconst (v := (2 : Int32)) dd_Mo_sortFor_43 (by decide) (fr_pc (pc' := 44) rfl ?_)
        refine fp_iload_n (i := 2) (x := p2) dd_Mo_sortFor_44 rfl rfl (fr_pc (pc' := 45) rfl ?_)
        refine fp_iload_n (i := 3) (x := p3) dd_Mo_sortFor_45 rfl rfl (fr_pc (pc' := 46) rfl ?_)
        refine fr_callV (stk := []) (As := [.int p1, .int (2 : Int32), .int p2, .int p3]) cl_11 (ok_Mo_ticketBarred p0 p1 (2 : Int32) p2 p3) mt_Mo_ticketBarred rfl rfl sw_1660 sw_1662 sp_92 (by decide) (Nat.le_of_ble_eq_true rfl) dd_Mo_sortFor_46 (fun x12 => fr_to (pc' := 49) (env' := [some (sf_rv p0), some (.int p1), some (.int p2), some (.int p3)]) (stk' := [.int x12]) rfl rfl rfl ?_)
        refine fr_if_ne (tgt := 54) dd_Mo_sortFor_49 rfl (fun _ => ?_) (fun _ => ?_)
        · refine fr_pc (pc' := 52) rfl ?_
          refine fp_iconst (v := (2 : Int32)) dd_Mo_sortFor_52 (by decide) (fr_pc (pc' := 53) rfl ?_)
          exact fr_iret (v := (2 : Int32)) rfl rfl dd_Mo_sortFor_53
        · exact fr_ret rfl
    · refine fp_aload_n (i := 0) (r := p0) dd_Mo_sortFor_54 rfl rfl (fr_pc (pc' := 55) rfl ?_)
      refine fr_gR cl_11 2 (by decide) rfl sw_1074 dd_Mo_sortFor_55 (fun x15 => fr_pc (pc' := 58) rfl ?_)
      refine fp_iconst (v := (1 : Int32)) dd_Mo_sortFor_58 (by decide) (fr_pc (pc' := 59) rfl ?_)
      refine fp_iload_n (i := 2) (x := p2) dd_Mo_sortFor_59 rfl rfl (fr_pc (pc' := 60) rfl ?_)
      refine fp_iload_n (i := 3) (x := p3) dd_Mo_sortFor_60 rfl rfl (fr_pc (pc' := 61) rfl ?_)
      refine fr_callS (stk := [sf_rv x15]) (ok_Mo_ticketAt (1 : Int32) p2 p3) mt_Mo_ticketAt rfl rfl sw_1288 sw_1289 (by decide) (Nat.le_of_ble_eq_true rfl) dd_Mo_sortFor_61 (fun x16 => fr_to (pc' := 64) (env' := [some (sf_rv p0), some (.int p1), some (.int p2), some (.int p3)]) (stk' := [.int x16, sf_rv x15]) rfl rfl rfl ?_)
      refine fr_aI0 dd_Mo_sortFor_64 (fun x17 => fr_pc (pc' := 65) rfl ?_)
      refine fr_if_le (tgt := 83) dd_Mo_sortFor_65 rfl (fun _ => ?_) (fun _ => ?_)
      · refine fp_iconst (v := (-1 : Int32)) dd_Mo_sortFor_83 (by decide) (fr_pc (pc' := 84) rfl ?_)
        exact fr_iret (v := (-1 : Int32)) rfl rfl dd_Mo_sortFor_84
      · refine fr_pc (pc' := 68) rfl ?_
        refine fp_aload_n (i := 0) (r := p0) dd_Mo_sortFor_68 rfl rfl (fr_pc (pc' := 69) rfl ?_)
        refine fp_iload_n (i := 1) (x := p1) dd_Mo_sortFor_69 rfl rfl (fr_pc (pc' := 70) rfl ?_)
        refine fp_iconst (v := (1 : Int32)) dd_Mo_sortFor_70 (by decide) (fr_pc (pc' := 71) rfl ?_)
        refine fp_iload_n (i := 2) (x := p2) dd_Mo_sortFor_71 rfl rfl (fr_pc (pc' := 72) rfl ?_)
        refine fp_iload_n (i := 3) (x := p3) dd_Mo_sortFor_72 rfl rfl (fr_pc (pc' := 73) rfl ?_)
        refine fr_callV (stk := []) (As := [.int p1, .int (1 : Int32), .int p2, .int p3]) cl_11 (ok_Mo_ticketBarred p0 p1 (1 : Int32) p2 p3) mt_Mo_ticketBarred rfl rfl sw_1660 sw_1662 sp_92 (by decide) (Nat.le_of_ble_eq_true rfl) dd_Mo_sortFor_73 (fun x19 => fr_to (pc' := 76) (env' := [some (sf_rv p0), some (.int p1), some (.int p2), some (.int p3)]) (stk' := [.int x19]) rfl rfl rfl ?_)
        refine fr_if_ne (tgt := 83) dd_Mo_sortFor_76 rfl (fun _ => ?_) (fun _ => ?_)
        · refine fr_pc (pc' := 79) rfl ?_
          refine fp_iconst (v := (1 : Int32)) dd_Mo_sortFor_79 (by decide) (fr_pc (pc' := 80) rfl ?_)
          refine fp_goto (tgt := 84) dd_Mo_sortFor_80 rfl ?_
          exact fr_iret (v := (1 : Int32)) rfl rfl dd_Mo_sortFor_84
        · refine fp_iconst (v := (-1 : Int32)) dd_Mo_sortFor_83 (by decide) (fr_pc (pc' := 84) rfl ?_)
          exact fr_iret (v := (-1 : Int32)) rfl rfl dd_Mo_sortFor_84
theorem mt_Mo_laysHeld : sf_Mt ({ cls := "SplitFaresModel", name := "laysHeld", desc := "(I)V" } : Jvm.MethodName) prog_13_method_82_code 4 none 1 := ⟨sw_1655, sw_12, ⟨by decide, by decide, by decide +kernel⟩, by decide⟩
theorem dd_Mo_laysHeld_0 : decode prog_13_method_82_code 0 = .ok (.iconst 0, 1) := by decide +kernel
theorem dd_Mo_laysHeld_1 : decode prog_13_method_82_code 1 = .ok (.istore_n 2, 1) := by decide +kernel
theorem dd_Mo_laysHeld_2 : decode prog_13_method_82_code 2 = .ok (.iload_n 2, 1) := by decide +kernel
theorem dd_Mo_laysHeld_3 : decode prog_13_method_82_code 3 = .ok (.aload_n 0, 1) := by decide +kernel
theorem dd_Mo_laysHeld_4 : decode prog_13_method_82_code 4 = .ok (.getfield 345, 3) := by decide +kernel
theorem dd_Mo_laysHeld_7 : decode prog_13_method_82_code 7 = .ok (.if_icmp .ge 65, 3) := by decide +kernel
theorem dd_Mo_laysHeld_10 : decode prog_13_method_82_code 10 = .ok (.iload_n 2, 1) := by decide +kernel
theorem dd_Mo_laysHeld_11 : decode prog_13_method_82_code 11 = .ok (.iconst 1, 1) := by decide +kernel
theorem dd_Mo_laysHeld_12 : decode prog_13_method_82_code 12 = .ok (.iadd, 1) := by decide +kernel
theorem dd_Mo_laysHeld_13 : decode prog_13_method_82_code 13 = .ok (.istore_n 3, 1) := by decide +kernel
theorem dd_Mo_laysHeld_14 : decode prog_13_method_82_code 14 = .ok (.iload_n 3, 1) := by decide +kernel
theorem dd_Mo_laysHeld_15 : decode prog_13_method_82_code 15 = .ok (.aload_n 0, 1) := by decide +kernel
theorem dd_Mo_laysHeld_16 : decode prog_13_method_82_code 16 = .ok (.getfield 345, 3) := by decide +kernel
theorem dd_Mo_laysHeld_19 : decode prog_13_method_82_code 19 = .ok (.if_icmp .ge 47, 3) := by decide +kernel
theorem dd_Mo_laysHeld_22 : decode prog_13_method_82_code 22 = .ok (.aload_n 0, 1) := by decide +kernel
theorem dd_Mo_laysHeld_23 : decode prog_13_method_82_code 23 = .ok (.getfield 73, 3) := by decide +kernel
theorem dd_Mo_laysHeld_26 : decode prog_13_method_82_code 26 = .ok (.iload_n 2, 1) := by decide +kernel
theorem dd_Mo_laysHeld_27 : decode prog_13_method_82_code 27 = .ok (.iload_n 3, 1) := by decide +kernel
theorem dd_Mo_laysHeld_28 : decode prog_13_method_82_code 28 = .ok (.invokestatic 135, 3) := by decide +kernel
theorem dd_Mo_laysHeld_31 : decode prog_13_method_82_code 31 = .ok (.aload_n 0, 1) := by decide +kernel
theorem dd_Mo_laysHeld_32 : decode prog_13_method_82_code 32 = .ok (.iload_n 1, 1) := by decide +kernel
theorem dd_Mo_laysHeld_33 : decode prog_13_method_82_code 33 = .ok (.aload_n 0, 1) := by decide +kernel
theorem dd_Mo_laysHeld_34 : decode prog_13_method_82_code 34 = .ok (.getfield 70, 3) := by decide +kernel
theorem dd_Mo_laysHeld_37 : decode prog_13_method_82_code 37 = .ok (.iload_n 2, 1) := by decide +kernel
theorem dd_Mo_laysHeld_38 : decode prog_13_method_82_code 38 = .ok (.iaload, 1) := by decide +kernel
theorem dd_Mo_laysHeld_39 : decode prog_13_method_82_code 39 = .ok (.aload_n 0, 1) := by decide +kernel
theorem dd_Mo_laysHeld_40 : decode prog_13_method_82_code 40 = .ok (.getfield 70, 3) := by decide +kernel
theorem dd_Mo_laysHeld_43 : decode prog_13_method_82_code 43 = .ok (.iload_n 3, 1) := by decide +kernel
theorem dd_Mo_laysHeld_44 : decode prog_13_method_82_code 44 = .ok (.iaload, 1) := by decide +kernel
theorem dd_Mo_laysHeld_45 : decode prog_13_method_82_code 45 = .ok (.invokevirtual 349, 3) := by decide +kernel
theorem dd_Mo_laysHeld_48 : decode prog_13_method_82_code 48 = .ok (.iconst (-1), 1) := by decide +kernel
theorem dd_Mo_laysHeld_49 : decode prog_13_method_82_code 49 = .ok (.if_icmp .ne 9, 3) := by decide +kernel
theorem dd_Mo_laysHeld_52 : decode prog_13_method_82_code 52 = .ok (.ldc_w 348, 3) := by decide +kernel
theorem dd_Mo_laysHeld_55 : decode prog_13_method_82_code 55 = .ok (.goto 4, 3) := by decide +kernel
theorem dd_Mo_laysHeld_58 : decode prog_13_method_82_code 58 = .ok (.iconst 1, 1) := by decide +kernel
theorem dd_Mo_laysHeld_59 : decode prog_13_method_82_code 59 = .ok (.iastore, 1) := by decide +kernel
theorem dd_Mo_laysHeld_60 : decode prog_13_method_82_code 60 = .ok (.iinc 3 1, 3) := by decide +kernel
theorem dd_Mo_laysHeld_63 : decode prog_13_method_82_code 63 = .ok (.goto (-49), 3) := by decide +kernel
theorem dd_Mo_laysHeld_66 : decode prog_13_method_82_code 66 = .ok (.iinc 2 1, 3) := by decide +kernel
theorem dd_Mo_laysHeld_69 : decode prog_13_method_82_code 69 = .ok (.goto (-67), 3) := by decide +kernel
theorem dd_Mo_laysHeld_72 : decode prog_13_method_82_code 72 = .ok (.return_, 1) := by decide +kernel
def jx_Mo_laysHeld (p0 : Option Nat) (p1 : Int32) : sf_M (Unit) :=
  sf_bnd (sf_loop (β := (Int32)) (γ := (Unit)) (fun b1 =>
  sf_bnd (sf_gI 11 30 p0) fun x2 =>
  if x2 ≤ b1 then (
  sf_ret (.inr ())
  ) else (
  sf_bnd (sf_ret ((b1 + (1 : Int32)))) fun y4 =>
  sf_bnd (sf_loop (β := (Int32)) (γ := (Unit)) (fun b5 =>
  sf_bnd (sf_gI 11 30 p0) fun x6 =>
  if x6 ≤ b5 then (
  sf_ret (.inr ())
  ) else (
  sf_bnd (sf_gR 11 31 p0) fun x8 =>
  sf_bnd (jx_Mo_pairAt b1 b5) fun x9 =>
  sf_bnd (sf_gR 11 29 p0) fun x10 =>
  sf_bnd (sf_aI 0 x10 b1) fun x11 =>
  sf_bnd (sf_gR 11 29 p0) fun x12 =>
  sf_bnd (sf_aI 0 x12 b5) fun x13 =>
  sf_bnd (sf_rc 11 p0 (jx_Mo_sortFor p0 p1 x11 x13)) fun x14 =>
  sf_bnd (α := (Int32)) (
  if x14 = (-1 : Int32) then (
  sf_ret (100000000 : Int32)
  ) else (
  sf_ret (1 : Int32)
  )
  ) (fun v16 =>
  sf_bnd (sf_sI 0 x8 x9 v16) fun _ =>
  sf_bnd (sf_ret (b5 + (1 : Int32))) fun y17 =>
  sf_ret (.inl y17)
  )
  )
  ) sf_fuel y4) (fun e18 =>
  sf_bnd (sf_ret (b1 + (1 : Int32))) fun y19 =>
  sf_ret (.inl y19)
  )
  )
  ) sf_fuel (0 : Int32)) (fun e20 =>
  sf_ret ()
  )
set_option maxRecDepth 20000 in
set_option maxHeartbeats 4000000 in
theorem ok_Mo_laysHeld (p0 : Option Nat) (p1 : Int32) : sf_Ok ({ cls := "SplitFaresModel", name := "laysHeld", desc := "(I)V" } : Jvm.MethodName) prog_13_method_82_code 4 none 209 [sf_rv p0, .int p1] (jx_Mo_laysHeld p0 p1) (fun _ => none) := by
  refine sf_Ok.of (env := [some (sf_rv p0), some (.int p1), none, none]) (plainFor_of_name (by decide)) [false, false] (fun G => ⟨pk_r, pk_i, trivial⟩) (Nat.le_of_ble_eq_true rfl) rfl (fun X => ?_)
  unfold jx_Mo_laysHeld
  refine fp_iconst (v := (0 : Int32)) dd_Mo_laysHeld_0 (by decide) (fr_pc (pc' := 1) rfl ?_)
  refine fp_istore_n (i := 2) dd_Mo_laysHeld_1 rfl (Nat.le_of_ble_eq_true rfl) (fun _ => c1_i rfl) (fr_to (pc' := 2) (env' := [some (sf_rv p0), some (.int p1), some (.int (0 : Int32)), none]) (stk' := []) rfl rfl rfl ?_)
  refine fr_to (pc' := 2) (env' := [some (sf_rv p0), some (.int p1), some (.int (0 : Int32)), none]) (stk' := []) rfl rfl rfl ?_
  refine fr_bnd (l1 := (fun (e20 : (Unit)) => sf_p 72 [some (sf_rv p0), some (.int p1), none, none] [])) (fr_loop (Lb := (fun (b1 : (Int32)) => sf_p 2 [some (sf_rv p0), some (.int p1), some (.int b1), none] [])) (fun b1 => ?_) _ _) (fun e20 => ?_)
  · refine fp_iload_n (i := 2) (x := b1) dd_Mo_laysHeld_2 rfl rfl (fr_pc (pc' := 3) rfl ?_)
    refine fp_aload_n (i := 0) (r := p0) dd_Mo_laysHeld_3 rfl rfl (fr_pc (pc' := 4) rfl ?_)
    refine fr_gI cl_11 30 (by decide) rfl sw_1102 dd_Mo_laysHeld_4 (fun x2 => fr_pc (pc' := 7) rfl ?_)
    refine fr_icmp_ge (tgt := 72) dd_Mo_laysHeld_7 rfl (fun _ => ?_) (fun _ => ?_)
    · refine fr_wk [true, true, false, false] ?_
      exact fr_ret rfl
    · refine fr_pc (pc' := 10) rfl ?_
      refine fp_iload_n (i := 2) (x := b1) dd_Mo_laysHeld_10 rfl rfl (fr_pc (pc' := 11) rfl ?_)
      refine fp_iconst (v := (1 : Int32)) dd_Mo_laysHeld_11 (by decide) (fr_pc (pc' := 12) rfl ?_)
      refine fp_iadd dd_Mo_laysHeld_12 (fr_pc (pc' := 13) rfl ?_)
      refine fr_nistore_n (i := 3) dd_Mo_laysHeld_13 rfl (Nat.le_of_ble_eq_true rfl) (fun _ => c1_i rfl) (fun y4 => fr_to (pc' := 14) (env' := [some (sf_rv p0), some (.int p1), some (.int b1), some (.int y4)]) (stk' := []) rfl rfl rfl ?_)
      refine fr_to (pc' := 14) (env' := [some (sf_rv p0), some (.int p1), some (.int b1), some (.int y4)]) (stk' := []) rfl rfl rfl ?_
      refine fr_bnd (l1 := (fun (e18 : (Unit)) => sf_p 66 [some (sf_rv p0), some (.int p1), some (.int b1), none] [])) (fr_loop (Lb := (fun (b5 : (Int32)) => sf_p 14 [some (sf_rv p0), some (.int p1), some (.int b1), some (.int b5)] [])) (fun b5 => ?_) _ _) (fun e18 => ?_)
      · refine fp_iload_n (i := 3) (x := b5) dd_Mo_laysHeld_14 rfl rfl (fr_pc (pc' := 15) rfl ?_)
        refine fp_aload_n (i := 0) (r := p0) dd_Mo_laysHeld_15 rfl rfl (fr_pc (pc' := 16) rfl ?_)
        refine fr_gI cl_11 30 (by decide) rfl sw_1102 dd_Mo_laysHeld_16 (fun x6 => fr_pc (pc' := 19) rfl ?_)
        refine fr_icmp_ge (tgt := 66) dd_Mo_laysHeld_19 rfl (fun _ => ?_) (fun _ => ?_)
        · refine fr_wk [true, true, true, false] ?_
          exact fr_ret rfl
        · refine fr_pc (pc' := 22) rfl ?_
          refine fp_aload_n (i := 0) (r := p0) dd_Mo_laysHeld_22 rfl rfl (fr_pc (pc' := 23) rfl ?_)
          refine fr_gR cl_11 31 (by decide) rfl sw_1103 dd_Mo_laysHeld_23 (fun x8 => fr_pc (pc' := 26) rfl ?_)
          refine fp_iload_n (i := 2) (x := b1) dd_Mo_laysHeld_26 rfl rfl (fr_pc (pc' := 27) rfl ?_)
          refine fp_iload_n (i := 3) (x := b5) dd_Mo_laysHeld_27 rfl rfl (fr_pc (pc' := 28) rfl ?_)
          refine fr_callS (stk := [sf_rv x8]) (ok_Mo_pairAt b1 b5) mt_Mo_pairAt rfl rfl sw_1291 sw_1292 (by decide) (Nat.le_of_ble_eq_true rfl) dd_Mo_laysHeld_28 (fun x9 => fr_to (pc' := 31) (env' := [some (sf_rv p0), some (.int p1), some (.int b1), some (.int b5)]) (stk' := [.int x9, sf_rv x8]) rfl rfl rfl ?_)
          refine fp_aload_n (i := 0) (r := p0) dd_Mo_laysHeld_31 rfl rfl (fr_pc (pc' := 32) rfl ?_)
          refine fp_iload_n (i := 1) (x := p1) dd_Mo_laysHeld_32 rfl rfl (fr_pc (pc' := 33) rfl ?_)
          refine fp_aload_n (i := 0) (r := p0) dd_Mo_laysHeld_33 rfl rfl (fr_pc (pc' := 34) rfl ?_)
          refine fr_gR cl_11 29 (by decide) rfl sw_1101 dd_Mo_laysHeld_34 (fun x10 => fr_pc (pc' := 37) rfl ?_)
          refine fp_iload_n (i := 2) (x := b1) dd_Mo_laysHeld_37 rfl rfl (fr_pc (pc' := 38) rfl ?_)
          refine fr_aI0 dd_Mo_laysHeld_38 (fun x11 => fr_pc (pc' := 39) rfl ?_)
          refine fp_aload_n (i := 0) (r := p0) dd_Mo_laysHeld_39 rfl rfl (fr_pc (pc' := 40) rfl ?_)
          refine fr_gR cl_11 29 (by decide) rfl sw_1101 dd_Mo_laysHeld_40 (fun x12 => fr_pc (pc' := 43) rfl ?_)
          refine fp_iload_n (i := 3) (x := b5) dd_Mo_laysHeld_43 rfl rfl (fr_pc (pc' := 44) rfl ?_)
          refine fr_aI0 dd_Mo_laysHeld_44 (fun x13 => fr_pc (pc' := 45) rfl ?_)
          refine fr_callV (stk := [.int x9, sf_rv x8]) (As := [.int p1, .int x11, .int x13]) cl_11 (ok_Mo_sortFor p0 p1 x11 x13) mt_Mo_sortFor rfl rfl sw_1656 sw_1658 sp_91 (by decide) (Nat.le_of_ble_eq_true rfl) dd_Mo_laysHeld_45 (fun x14 => fr_to (pc' := 48) (env' := [some (sf_rv p0), some (.int p1), some (.int b1), some (.int b5)]) (stk' := [.int x14, .int x9, sf_rv x8]) rfl rfl rfl ?_)
          refine fp_iconst (v := (-1 : Int32)) dd_Mo_laysHeld_48 (by decide) (fr_pc (pc' := 49) rfl ?_)
          refine fr_bnd (l1 := (fun (v16 : (Int32)) => sf_p 59 [some (sf_rv p0), some (.int p1), some (.int b1), some (.int b5)] [.int v16, .int x9, sf_rv x8])) ?_ (fun v16 => ?_)
          · refine fr_icmp_ne (tgt := 58) dd_Mo_laysHeld_49 rfl (fun _ => ?_) (fun _ => ?_)
            · refine fr_pc (pc' := 52) rfl ?_
              refine fp_ldcw (v := (100000000 : Int32)) dd_Mo_laysHeld_52 sw_1535 (fr_pc (pc' := 55) rfl ?_)
              refine fp_goto (tgt := 59) dd_Mo_laysHeld_55 rfl ?_
              exact fr_ret rfl
            · refine fp_iconst (v := (1 : Int32)) dd_Mo_laysHeld_58 (by decide) (fr_pc (pc' := 59) rfl ?_)
              exact fr_ret rfl
          · refine fr_sI0 dd_Mo_laysHeld_59 (fr_pc (pc' := 60) rfl ?_)
            refine fr_niinc (i := 3) (x := b5) (w := (1 : Int32)) dd_Mo_laysHeld_60 rfl (by decide) (Nat.le_of_ble_eq_true rfl) (fun _ => c1_i rfl) (fun y17 => fr_to (pc' := 63) (env' := [some (sf_rv p0), some (.int p1), some (.int b1), some (.int y17)]) (stk' := []) rfl rfl rfl ?_)
            refine fp_goto (tgt := 14) dd_Mo_laysHeld_63 rfl ?_
            exact fr_ret rfl
      · refine fr_niinc (i := 2) (x := b1) (w := (1 : Int32)) dd_Mo_laysHeld_66 rfl (by decide) (Nat.le_of_ble_eq_true rfl) (fun _ => c1_i rfl) (fun y19 => fr_to (pc' := 69) (env' := [some (sf_rv p0), some (.int p1), some (.int y19), none]) (stk' := []) rfl rfl rfl ?_)
        refine fp_goto (tgt := 2) dd_Mo_laysHeld_69 rfl ?_
        exact fr_ret rfl
  · exact fr_vret rfl rfl dd_Mo_laysHeld_72
theorem mt_Mo_laysLeft : sf_Mt ({ cls := "SplitFaresModel", name := "laysLeft", desc := "()V" } : Jvm.MethodName) prog_13_method_84_code 3 none 0 := ⟨sw_1539, sw_12, ⟨by decide, by decide, by decide +kernel⟩, by decide⟩
theorem dd_Mo_laysLeft_0 : decode prog_13_method_84_code 0 = .ok (.aload_n 0, 1) := by decide +kernel
theorem dd_Mo_laysLeft_1 : decode prog_13_method_84_code 1 = .ok (.getfield 345, 3) := by decide +kernel
theorem dd_Mo_laysLeft_4 : decode prog_13_method_84_code 4 = .ok (.iconst 1, 1) := by decide +kernel
theorem dd_Mo_laysLeft_5 : decode prog_13_method_84_code 5 = .ok (.isub, 1) := by decide +kernel
theorem dd_Mo_laysLeft_6 : decode prog_13_method_84_code 6 = .ok (.istore_n 1, 1) := by decide +kernel
theorem dd_Mo_laysLeft_7 : decode prog_13_method_84_code 7 = .ok (.iload_n 1, 1) := by decide +kernel
theorem dd_Mo_laysLeft_8 : decode prog_13_method_84_code 8 = .ok (.ifCond .lt 82, 3) := by decide +kernel
theorem dd_Mo_laysLeft_11 : decode prog_13_method_84_code 11 = .ok (.aload_n 0, 1) := by decide +kernel
theorem dd_Mo_laysLeft_12 : decode prog_13_method_84_code 12 = .ok (.getfield 76, 3) := by decide +kernel
theorem dd_Mo_laysLeft_15 : decode prog_13_method_84_code 15 = .ok (.iload_n 1, 1) := by decide +kernel
theorem dd_Mo_laysLeft_16 : decode prog_13_method_84_code 16 = .ok (.iload_n 1, 1) := by decide +kernel
theorem dd_Mo_laysLeft_17 : decode prog_13_method_84_code 17 = .ok (.aload_n 0, 1) := by decide +kernel
theorem dd_Mo_laysLeft_18 : decode prog_13_method_84_code 18 = .ok (.getfield 345, 3) := by decide +kernel
theorem dd_Mo_laysLeft_21 : decode prog_13_method_84_code 21 = .ok (.iconst 1, 1) := by decide +kernel
theorem dd_Mo_laysLeft_22 : decode prog_13_method_84_code 22 = .ok (.isub, 1) := by decide +kernel
theorem dd_Mo_laysLeft_23 : decode prog_13_method_84_code 23 = .ok (.if_icmp .ne 7, 3) := by decide +kernel
theorem dd_Mo_laysLeft_26 : decode prog_13_method_84_code 26 = .ok (.iconst 0, 1) := by decide +kernel
theorem dd_Mo_laysLeft_27 : decode prog_13_method_84_code 27 = .ok (.goto 6, 3) := by decide +kernel
theorem dd_Mo_laysLeft_30 : decode prog_13_method_84_code 30 = .ok (.ldc_w 348, 3) := by decide +kernel
theorem dd_Mo_laysLeft_33 : decode prog_13_method_84_code 33 = .ok (.iastore, 1) := by decide +kernel
theorem dd_Mo_laysLeft_34 : decode prog_13_method_84_code 34 = .ok (.iload_n 1, 1) := by decide +kernel
theorem dd_Mo_laysLeft_35 : decode prog_13_method_84_code 35 = .ok (.iconst 1, 1) := by decide +kernel
theorem dd_Mo_laysLeft_36 : decode prog_13_method_84_code 36 = .ok (.iadd, 1) := by decide +kernel
theorem dd_Mo_laysLeft_37 : decode prog_13_method_84_code 37 = .ok (.istore_n 2, 1) := by decide +kernel
theorem dd_Mo_laysLeft_38 : decode prog_13_method_84_code 38 = .ok (.iload_n 2, 1) := by decide +kernel
theorem dd_Mo_laysLeft_39 : decode prog_13_method_84_code 39 = .ok (.aload_n 0, 1) := by decide +kernel
theorem dd_Mo_laysLeft_40 : decode prog_13_method_84_code 40 = .ok (.getfield 345, 3) := by decide +kernel
theorem dd_Mo_laysLeft_43 : decode prog_13_method_84_code 43 = .ok (.if_icmp .ge 41, 3) := by decide +kernel
theorem dd_Mo_laysLeft_46 : decode prog_13_method_84_code 46 = .ok (.aload_n 0, 1) := by decide +kernel
theorem dd_Mo_laysLeft_47 : decode prog_13_method_84_code 47 = .ok (.getfield 76, 3) := by decide +kernel
theorem dd_Mo_laysLeft_50 : decode prog_13_method_84_code 50 = .ok (.iload_n 1, 1) := by decide +kernel
theorem dd_Mo_laysLeft_51 : decode prog_13_method_84_code 51 = .ok (.aload_n 0, 1) := by decide +kernel
theorem dd_Mo_laysLeft_52 : decode prog_13_method_84_code 52 = .ok (.getfield 76, 3) := by decide +kernel
theorem dd_Mo_laysLeft_55 : decode prog_13_method_84_code 55 = .ok (.iload_n 1, 1) := by decide +kernel
theorem dd_Mo_laysLeft_56 : decode prog_13_method_84_code 56 = .ok (.iaload, 1) := by decide +kernel
theorem dd_Mo_laysLeft_57 : decode prog_13_method_84_code 57 = .ok (.aload_n 0, 1) := by decide +kernel
theorem dd_Mo_laysLeft_58 : decode prog_13_method_84_code 58 = .ok (.getfield 73, 3) := by decide +kernel
theorem dd_Mo_laysLeft_61 : decode prog_13_method_84_code 61 = .ok (.iload_n 1, 1) := by decide +kernel
theorem dd_Mo_laysLeft_62 : decode prog_13_method_84_code 62 = .ok (.iload_n 2, 1) := by decide +kernel
theorem dd_Mo_laysLeft_63 : decode prog_13_method_84_code 63 = .ok (.invokestatic 135, 3) := by decide +kernel
theorem dd_Mo_laysLeft_66 : decode prog_13_method_84_code 66 = .ok (.iaload, 1) := by decide +kernel
theorem dd_Mo_laysLeft_67 : decode prog_13_method_84_code 67 = .ok (.aload_n 0, 1) := by decide +kernel
theorem dd_Mo_laysLeft_68 : decode prog_13_method_84_code 68 = .ok (.getfield 76, 3) := by decide +kernel
theorem dd_Mo_laysLeft_71 : decode prog_13_method_84_code 71 = .ok (.iload_n 2, 1) := by decide +kernel
theorem dd_Mo_laysLeft_72 : decode prog_13_method_84_code 72 = .ok (.iaload, 1) := by decide +kernel
theorem dd_Mo_laysLeft_73 : decode prog_13_method_84_code 73 = .ok (.iadd, 1) := by decide +kernel
theorem dd_Mo_laysLeft_74 : decode prog_13_method_84_code 74 = .ok (.invokestatic 355, 3) := by decide +kernel
theorem dd_Mo_laysLeft_77 : decode prog_13_method_84_code 77 = .ok (.iastore, 1) := by decide +kernel
theorem dd_Mo_laysLeft_78 : decode prog_13_method_84_code 78 = .ok (.iinc 2 1, 3) := by decide +kernel
theorem dd_Mo_laysLeft_81 : decode prog_13_method_84_code 81 = .ok (.goto (-43), 3) := by decide +kernel
theorem dd_Mo_laysLeft_84 : decode prog_13_method_84_code 84 = .ok (.iinc 1 (-1), 3) := by decide +kernel
theorem dd_Mo_laysLeft_87 : decode prog_13_method_84_code 87 = .ok (.goto (-80), 3) := by decide +kernel
theorem dd_Mo_laysLeft_90 : decode prog_13_method_84_code 90 = .ok (.return_, 1) := by decide +kernel
def jx_Mo_laysLeft (p0 : Option Nat) : sf_M (Unit) :=
  sf_bnd (sf_gI 11 30 p0) fun x1 =>
  sf_bnd (sf_ret ((x1 - (1 : Int32)))) fun y2 =>
  sf_bnd (sf_loop (β := (Int32)) (γ := (Unit)) (fun b3 =>
  if b3 < 0 then (
  sf_ret (.inr ())
  ) else (
  sf_bnd (sf_gR 11 32 p0) fun x5 =>
  sf_bnd (sf_gI 11 30 p0) fun x6 =>
  sf_bnd (α := (Int32)) (
  if b3 = (x6 - (1 : Int32)) then (
  sf_ret (0 : Int32)
  ) else (
  sf_ret (100000000 : Int32)
  )
  ) (fun v8 =>
  sf_bnd (sf_sI 0 x5 b3 v8) fun _ =>
  sf_bnd (sf_ret ((b3 + (1 : Int32)))) fun y9 =>
  sf_bnd (sf_loop (β := (Int32)) (γ := (Unit)) (fun b10 =>
  sf_bnd (sf_gI 11 30 p0) fun x11 =>
  if x11 ≤ b10 then (
  sf_ret (.inr ())
  ) else (
  sf_bnd (sf_gR 11 32 p0) fun x13 =>
  sf_bnd (sf_gR 11 32 p0) fun x14 =>
  sf_bnd (sf_aI 0 x14 b3) fun x15 =>
  sf_bnd (sf_gR 11 31 p0) fun x16 =>
  sf_bnd (jx_Mo_pairAt b3 b10) fun x17 =>
  sf_bnd (sf_aI 0 x16 x17) fun x18 =>
  sf_bnd (sf_gR 11 32 p0) fun x19 =>
  sf_bnd (sf_aI 0 x19 b10) fun x20 =>
  sf_bnd (jx_Mo_lesser x15 (x18 + x20)) fun x21 =>
  sf_bnd (sf_sI 0 x13 b3 x21) fun _ =>
  sf_bnd (sf_ret (b10 + (1 : Int32))) fun y22 =>
  sf_ret (.inl y22)
  )
  ) sf_fuel y9) (fun e23 =>
  sf_bnd (sf_ret (b3 + (-1 : Int32))) fun y24 =>
  sf_ret (.inl y24)
  )
  )
  )
  ) sf_fuel y2) (fun e25 =>
  sf_ret ()
  )
set_option maxRecDepth 20000 in
set_option maxHeartbeats 4000000 in
theorem ok_Mo_laysLeft (p0 : Option Nat) : sf_Ok ({ cls := "SplitFaresModel", name := "laysLeft", desc := "()V" } : Jvm.MethodName) prog_13_method_84_code 3 none 1 [sf_rv p0] (jx_Mo_laysLeft p0) (fun _ => none) := by
  refine sf_Ok.of (env := [some (sf_rv p0), none, none]) (plainFor_of_name (by decide)) [false] (fun G => ⟨pk_r, trivial⟩) (Nat.le_of_ble_eq_true rfl) rfl (fun X => ?_)
  unfold jx_Mo_laysLeft
  refine fp_aload_n (i := 0) (r := p0) dd_Mo_laysLeft_0 rfl rfl (fr_pc (pc' := 1) rfl ?_)
  refine fr_gI cl_11 30 (by decide) rfl sw_1102 dd_Mo_laysLeft_1 (fun x1 => fr_pc (pc' := 4) rfl ?_)
  refine fp_iconst (v := (1 : Int32)) dd_Mo_laysLeft_4 (by decide) (fr_pc (pc' := 5) rfl ?_)
  refine fp_isub dd_Mo_laysLeft_5 (fr_pc (pc' := 6) rfl ?_)
  refine fr_nistore_n (i := 1) dd_Mo_laysLeft_6 rfl (Nat.le_of_ble_eq_true rfl) (fun _ => c1_r rfl) (fun y2 => fr_to (pc' := 7) (env' := [some (sf_rv p0), some (.int y2), none]) (stk' := []) rfl rfl rfl ?_)
  refine fr_to (pc' := 7) (env' := [some (sf_rv p0), some (.int y2), none]) (stk' := []) rfl rfl rfl ?_
  refine fr_bnd (l1 := (fun (e25 : (Unit)) => sf_p 90 [some (sf_rv p0), none, none] [])) (fr_loop (Lb := (fun (b3 : (Int32)) => sf_p 7 [some (sf_rv p0), some (.int b3), none] [])) (fun b3 => ?_) _ _) (fun e25 => ?_)
  · refine fp_iload_n (i := 1) (x := b3) dd_Mo_laysLeft_7 rfl rfl (fr_pc (pc' := 8) rfl ?_)
    refine fr_if_lt (tgt := 90) dd_Mo_laysLeft_8 rfl (fun _ => ?_) (fun _ => ?_)
    · refine fr_wk [true, false, false] ?_
      exact fr_ret rfl
    · refine fr_pc (pc' := 11) rfl ?_
      refine fp_aload_n (i := 0) (r := p0) dd_Mo_laysLeft_11 rfl rfl (fr_pc (pc' := 12) rfl ?_)
      refine fr_gR cl_11 32 (by decide) rfl sw_1104 dd_Mo_laysLeft_12 (fun x5 => fr_pc (pc' := 15) rfl ?_)
      refine fp_iload_n (i := 1) (x := b3) dd_Mo_laysLeft_15 rfl rfl (fr_pc (pc' := 16) rfl ?_)
      refine fp_iload_n (i := 1) (x := b3) dd_Mo_laysLeft_16 rfl rfl (fr_pc (pc' := 17) rfl ?_)
      refine fp_aload_n (i := 0) (r := p0) dd_Mo_laysLeft_17 rfl rfl (fr_pc (pc' := 18) rfl ?_)
      refine fr_gI cl_11 30 (by decide) rfl sw_1102 dd_Mo_laysLeft_18 (fun x6 => fr_pc (pc' := 21) rfl ?_)
      refine fp_iconst (v := (1 : Int32)) dd_Mo_laysLeft_21 (by decide) (fr_pc (pc' := 22) rfl ?_)
      refine fp_isub dd_Mo_laysLeft_22 (fr_pc (pc' := 23) rfl ?_)
      refine fr_bnd (l1 := (fun (v8 : (Int32)) => sf_p 33 [some (sf_rv p0), some (.int b3), none] [.int v8, .int b3, sf_rv x5])) ?_ (fun v8 => ?_)
      · refine fr_icmp_ne (tgt := 30) dd_Mo_laysLeft_23 rfl (fun _ => ?_) (fun _ => ?_)
        · refine fr_pc (pc' := 26) rfl ?_
          refine fp_iconst (v := (0 : Int32)) dd_Mo_laysLeft_26 (by decide) (fr_pc (pc' := 27) rfl ?_)
          refine fp_goto (tgt := 33) dd_Mo_laysLeft_27 rfl ?_
          exact fr_ret rfl
        · refine fp_ldcw (v := (100000000 : Int32)) dd_Mo_laysLeft_30 sw_1535 (fr_pc (pc' := 33) rfl ?_)
          exact fr_ret rfl
      · refine fr_sI0 dd_Mo_laysLeft_33 (fr_pc (pc' := 34) rfl ?_)
        refine fp_iload_n (i := 1) (x := b3) dd_Mo_laysLeft_34 rfl rfl (fr_pc (pc' := 35) rfl ?_)
        refine fp_iconst (v := (1 : Int32)) dd_Mo_laysLeft_35 (by decide) (fr_pc (pc' := 36) rfl ?_)
        refine fp_iadd dd_Mo_laysLeft_36 (fr_pc (pc' := 37) rfl ?_)
        refine fr_nistore_n (i := 2) dd_Mo_laysLeft_37 rfl (Nat.le_of_ble_eq_true rfl) (fun _ => c1_i rfl) (fun y9 => fr_to (pc' := 38) (env' := [some (sf_rv p0), some (.int b3), some (.int y9)]) (stk' := []) rfl rfl rfl ?_)
        refine fr_to (pc' := 38) (env' := [some (sf_rv p0), some (.int b3), some (.int y9)]) (stk' := []) rfl rfl rfl ?_
        refine fr_bnd (l1 := (fun (e23 : (Unit)) => sf_p 84 [some (sf_rv p0), some (.int b3), none] [])) (fr_loop (Lb := (fun (b10 : (Int32)) => sf_p 38 [some (sf_rv p0), some (.int b3), some (.int b10)] [])) (fun b10 => ?_) _ _) (fun e23 => ?_)
        · refine fp_iload_n (i := 2) (x := b10) dd_Mo_laysLeft_38 rfl rfl (fr_pc (pc' := 39) rfl ?_)
          refine fp_aload_n (i := 0) (r := p0) dd_Mo_laysLeft_39 rfl rfl (fr_pc (pc' := 40) rfl ?_)
          refine fr_gI cl_11 30 (by decide) rfl sw_1102 dd_Mo_laysLeft_40 (fun x11 => fr_pc (pc' := 43) rfl ?_)
          refine fr_icmp_ge (tgt := 84) dd_Mo_laysLeft_43 rfl (fun _ => ?_) (fun _ => ?_)
          · refine fr_wk [true, true, false] ?_
            exact fr_ret rfl
          · refine fr_pc (pc' := 46) rfl ?_
            refine fp_aload_n (i := 0) (r := p0) dd_Mo_laysLeft_46 rfl rfl (fr_pc (pc' := 47) rfl ?_)
            refine fr_gR cl_11 32 (by decide) rfl sw_1104 dd_Mo_laysLeft_47 (fun x13 => fr_pc (pc' := 50) rfl ?_)
            refine fp_iload_n (i := 1) (x := b3) dd_Mo_laysLeft_50 rfl rfl (fr_pc (pc' := 51) rfl ?_)
            refine fp_aload_n (i := 0) (r := p0) dd_Mo_laysLeft_51 rfl rfl (fr_pc (pc' := 52) rfl ?_)
            refine fr_gR cl_11 32 (by decide) rfl sw_1104 dd_Mo_laysLeft_52 (fun x14 => fr_pc (pc' := 55) rfl ?_)
            refine fp_iload_n (i := 1) (x := b3) dd_Mo_laysLeft_55 rfl rfl (fr_pc (pc' := 56) rfl ?_)
            refine fr_aI0 dd_Mo_laysLeft_56 (fun x15 => fr_pc (pc' := 57) rfl ?_)
            refine fp_aload_n (i := 0) (r := p0) dd_Mo_laysLeft_57 rfl rfl (fr_pc (pc' := 58) rfl ?_)
            refine fr_gR cl_11 31 (by decide) rfl sw_1103 dd_Mo_laysLeft_58 (fun x16 => fr_pc (pc' := 61) rfl ?_)
            refine fp_iload_n (i := 1) (x := b3) dd_Mo_laysLeft_61 rfl rfl (fr_pc (pc' := 62) rfl ?_)
            refine fp_iload_n (i := 2) (x := b10) dd_Mo_laysLeft_62 rfl rfl (fr_pc (pc' := 63) rfl ?_)
            refine fr_callS (stk := [sf_rv x16, .int x15, .int b3, sf_rv x13]) (ok_Mo_pairAt b3 b10) mt_Mo_pairAt rfl rfl sw_1291 sw_1292 (by decide) (Nat.le_of_ble_eq_true rfl) dd_Mo_laysLeft_63 (fun x17 => fr_to (pc' := 66) (env' := [some (sf_rv p0), some (.int b3), some (.int b10)]) (stk' := [.int x17, sf_rv x16, .int x15, .int b3, sf_rv x13]) rfl rfl rfl ?_)
            refine fr_aI0 dd_Mo_laysLeft_66 (fun x18 => fr_pc (pc' := 67) rfl ?_)
            refine fp_aload_n (i := 0) (r := p0) dd_Mo_laysLeft_67 rfl rfl (fr_pc (pc' := 68) rfl ?_)
            refine fr_gR cl_11 32 (by decide) rfl sw_1104 dd_Mo_laysLeft_68 (fun x19 => fr_pc (pc' := 71) rfl ?_)
            refine fp_iload_n (i := 2) (x := b10) dd_Mo_laysLeft_71 rfl rfl (fr_pc (pc' := 72) rfl ?_)
            refine fr_aI0 dd_Mo_laysLeft_72 (fun x20 => fr_pc (pc' := 73) rfl ?_)
            refine fp_iadd dd_Mo_laysLeft_73 (fr_pc (pc' := 74) rfl ?_)
            refine fr_callS (stk := [.int b3, sf_rv x13]) (ok_Mo_lesser x15 (x18 + x20)) mt_Mo_lesser rfl rfl sw_1540 sw_1541 (by decide) (Nat.le_of_ble_eq_true rfl) dd_Mo_laysLeft_74 (fun x21 => fr_to (pc' := 77) (env' := [some (sf_rv p0), some (.int b3), some (.int b10)]) (stk' := [.int x21, .int b3, sf_rv x13]) rfl rfl rfl ?_)
            refine fr_sI0 dd_Mo_laysLeft_77 (fr_pc (pc' := 78) rfl ?_)
            refine fr_niinc (i := 2) (x := b10) (w := (1 : Int32)) dd_Mo_laysLeft_78 rfl (by decide) (Nat.le_of_ble_eq_true rfl) (fun _ => c1_i rfl) (fun y22 => fr_to (pc' := 81) (env' := [some (sf_rv p0), some (.int b3), some (.int y22)]) (stk' := []) rfl rfl rfl ?_)
            refine fp_goto (tgt := 38) dd_Mo_laysLeft_81 rfl ?_
            exact fr_ret rfl
        · refine fr_niinc (i := 1) (x := b3) (w := (-1 : Int32)) dd_Mo_laysLeft_84 rfl (by decide) (Nat.le_of_ble_eq_true rfl) (fun _ => c1_r rfl) (fun y24 => fr_to (pc' := 87) (env' := [some (sf_rv p0), some (.int y24), none]) (stk' := []) rfl rfl rfl ?_)
          refine fp_goto (tgt := 7) dd_Mo_laysLeft_87 rfl ?_
          exact fr_ret rfl
  · exact fr_vret rfl rfl dd_Mo_laysLeft_90
theorem mt_Mo_nextOf : sf_Mt ({ cls := "SplitFaresModel", name := "nextOf", desc := "(I)I" } : Jvm.MethodName) prog_13_method_85_code 3 (some .int) 1 := ⟨sw_1554, sw_12, ⟨by decide, by decide, by decide +kernel⟩, by decide⟩
theorem dd_Mo_nextOf_0 : decode prog_13_method_85_code 0 = .ok (.iload_n 1, 1) := by decide +kernel
theorem dd_Mo_nextOf_1 : decode prog_13_method_85_code 1 = .ok (.iconst 1, 1) := by decide +kernel
theorem dd_Mo_nextOf_2 : decode prog_13_method_85_code 2 = .ok (.iadd, 1) := by decide +kernel
theorem dd_Mo_nextOf_3 : decode prog_13_method_85_code 3 = .ok (.istore_n 2, 1) := by decide +kernel
theorem dd_Mo_nextOf_4 : decode prog_13_method_85_code 4 = .ok (.aload_n 0, 1) := by decide +kernel
theorem dd_Mo_nextOf_5 : decode prog_13_method_85_code 5 = .ok (.getfield 73, 3) := by decide +kernel
theorem dd_Mo_nextOf_8 : decode prog_13_method_85_code 8 = .ok (.iload_n 1, 1) := by decide +kernel
theorem dd_Mo_nextOf_9 : decode prog_13_method_85_code 9 = .ok (.iload_n 2, 1) := by decide +kernel
theorem dd_Mo_nextOf_10 : decode prog_13_method_85_code 10 = .ok (.invokestatic 135, 3) := by decide +kernel
theorem dd_Mo_nextOf_13 : decode prog_13_method_85_code 13 = .ok (.iaload, 1) := by decide +kernel
theorem dd_Mo_nextOf_14 : decode prog_13_method_85_code 14 = .ok (.aload_n 0, 1) := by decide +kernel
theorem dd_Mo_nextOf_15 : decode prog_13_method_85_code 15 = .ok (.getfield 76, 3) := by decide +kernel
theorem dd_Mo_nextOf_18 : decode prog_13_method_85_code 18 = .ok (.iload_n 2, 1) := by decide +kernel
theorem dd_Mo_nextOf_19 : decode prog_13_method_85_code 19 = .ok (.iaload, 1) := by decide +kernel
theorem dd_Mo_nextOf_20 : decode prog_13_method_85_code 20 = .ok (.iadd, 1) := by decide +kernel
theorem dd_Mo_nextOf_21 : decode prog_13_method_85_code 21 = .ok (.aload_n 0, 1) := by decide +kernel
theorem dd_Mo_nextOf_22 : decode prog_13_method_85_code 22 = .ok (.getfield 76, 3) := by decide +kernel
theorem dd_Mo_nextOf_25 : decode prog_13_method_85_code 25 = .ok (.iload_n 1, 1) := by decide +kernel
theorem dd_Mo_nextOf_26 : decode prog_13_method_85_code 26 = .ok (.iaload, 1) := by decide +kernel
theorem dd_Mo_nextOf_27 : decode prog_13_method_85_code 27 = .ok (.if_icmp .eq 9, 3) := by decide +kernel
theorem dd_Mo_nextOf_30 : decode prog_13_method_85_code 30 = .ok (.iinc 2 1, 3) := by decide +kernel
theorem dd_Mo_nextOf_33 : decode prog_13_method_85_code 33 = .ok (.goto (-29), 3) := by decide +kernel
theorem dd_Mo_nextOf_36 : decode prog_13_method_85_code 36 = .ok (.iload_n 2, 1) := by decide +kernel
theorem dd_Mo_nextOf_37 : decode prog_13_method_85_code 37 = .ok (.ireturn, 1) := by decide +kernel
def jx_Mo_nextOf (p0 : Option Nat) (p1 : Int32) : sf_M (Int32) :=
  sf_bnd (sf_ret ((p1 + (1 : Int32)))) fun y1 =>
  sf_bnd (sf_loop (β := (Int32)) (γ := (Int32)) (fun b2 =>
  sf_bnd (sf_gR 11 31 p0) fun x3 =>
  sf_bnd (jx_Mo_pairAt p1 b2) fun x4 =>
  sf_bnd (sf_aI 0 x3 x4) fun x5 =>
  sf_bnd (sf_gR 11 32 p0) fun x6 =>
  sf_bnd (sf_aI 0 x6 b2) fun x7 =>
  sf_bnd (sf_gR 11 32 p0) fun x8 =>
  sf_bnd (sf_aI 0 x8 p1) fun x9 =>
  if (x5 + x7) = x9 then (
  sf_ret (.inr b2)
  ) else (
  sf_bnd (sf_ret (b2 + (1 : Int32))) fun y11 =>
  sf_ret (.inl y11)
  )
  ) sf_fuel y1) (fun e12 =>
  sf_ret e12
  )
set_option maxRecDepth 20000 in
set_option maxHeartbeats 4000000 in
theorem ok_Mo_nextOf (p0 : Option Nat) (p1 : Int32) : sf_Ok ({ cls := "SplitFaresModel", name := "nextOf", desc := "(I)I" } : Jvm.MethodName) prog_13_method_85_code 3 (some .int) 1 [sf_rv p0, .int p1] (jx_Mo_nextOf p0 p1) (fun r => some (.int r)) := by
  refine sf_Ok.of (env := [some (sf_rv p0), some (.int p1), none]) (plainFor_of_name (by decide)) [false, false] (fun G => ⟨pk_r, pk_i, trivial⟩) (Nat.le_of_ble_eq_true rfl) rfl (fun X => ?_)
  unfold jx_Mo_nextOf
  refine fp_iload_n (i := 1) (x := p1) dd_Mo_nextOf_0 rfl rfl (fr_pc (pc' := 1) rfl ?_)
  refine fp_iconst (v := (1 : Int32)) dd_Mo_nextOf_1 (by decide) (fr_pc (pc' := 2) rfl ?_)
  refine fp_iadd dd_Mo_nextOf_2 (fr_pc (pc' := 3) rfl ?_)
  refine fr_nistore_n (i := 2) dd_Mo_nextOf_3 rfl (Nat.le_of_ble_eq_true rfl) (fun _ => c1_i rfl) (fun y1 => fr_to (pc' := 4) (env' := [some (sf_rv p0), some (.int p1), some (.int y1)]) (stk' := []) rfl rfl rfl ?_)
  refine fr_to (pc' := 4) (env' := [some (sf_rv p0), some (.int p1), some (.int y1)]) (stk' := []) rfl rfl rfl ?_
  refine fr_bnd (l1 := (fun (e12 : (Int32)) => sf_p 36 [some (sf_rv p0), some (.int p1), some (.int e12)] [])) (fr_loop (Lb := (fun (b2 : (Int32)) => sf_p 4 [some (sf_rv p0), some (.int p1), some (.int b2)] [])) (fun b2 => ?_) _ _) (fun e12 => ?_)
  · refine fp_aload_n (i := 0) (r := p0) dd_Mo_nextOf_4 rfl rfl (fr_pc (pc' := 5) rfl ?_)
    refine fr_gR cl_11 31 (by decide) rfl sw_1103 dd_Mo_nextOf_5 (fun x3 => fr_pc (pc' := 8) rfl ?_)
    refine fp_iload_n (i := 1) (x := p1) dd_Mo_nextOf_8 rfl rfl (fr_pc (pc' := 9) rfl ?_)
    refine fp_iload_n (i := 2) (x := b2) dd_Mo_nextOf_9 rfl rfl (fr_pc (pc' := 10) rfl ?_)
    refine fr_callS (stk := [sf_rv x3]) (ok_Mo_pairAt p1 b2) mt_Mo_pairAt rfl rfl sw_1291 sw_1292 (by decide) (Nat.le_of_ble_eq_true rfl) dd_Mo_nextOf_10 (fun x4 => fr_to (pc' := 13) (env' := [some (sf_rv p0), some (.int p1), some (.int b2)]) (stk' := [.int x4, sf_rv x3]) rfl rfl rfl ?_)
    refine fr_aI0 dd_Mo_nextOf_13 (fun x5 => fr_pc (pc' := 14) rfl ?_)
    refine fp_aload_n (i := 0) (r := p0) dd_Mo_nextOf_14 rfl rfl (fr_pc (pc' := 15) rfl ?_)
    refine fr_gR cl_11 32 (by decide) rfl sw_1104 dd_Mo_nextOf_15 (fun x6 => fr_pc (pc' := 18) rfl ?_)
    refine fp_iload_n (i := 2) (x := b2) dd_Mo_nextOf_18 rfl rfl (fr_pc (pc' := 19) rfl ?_)
    refine fr_aI0 dd_Mo_nextOf_19 (fun x7 => fr_pc (pc' := 20) rfl ?_)
    refine fp_iadd dd_Mo_nextOf_20 (fr_pc (pc' := 21) rfl ?_)
    refine fp_aload_n (i := 0) (r := p0) dd_Mo_nextOf_21 rfl rfl (fr_pc (pc' := 22) rfl ?_)
    refine fr_gR cl_11 32 (by decide) rfl sw_1104 dd_Mo_nextOf_22 (fun x8 => fr_pc (pc' := 25) rfl ?_)
    refine fp_iload_n (i := 1) (x := p1) dd_Mo_nextOf_25 rfl rfl (fr_pc (pc' := 26) rfl ?_)
    refine fr_aI0 dd_Mo_nextOf_26 (fun x9 => fr_pc (pc' := 27) rfl ?_)
    refine fr_icmp_eq (tgt := 36) dd_Mo_nextOf_27 rfl (fun _ => ?_) (fun _ => ?_)
    · exact fr_ret rfl
    · refine fr_pc (pc' := 30) rfl ?_
      refine fr_niinc (i := 2) (x := b2) (w := (1 : Int32)) dd_Mo_nextOf_30 rfl (by decide) (Nat.le_of_ble_eq_true rfl) (fun _ => c1_i rfl) (fun y11 => fr_to (pc' := 33) (env' := [some (sf_rv p0), some (.int p1), some (.int y11)]) (stk' := []) rfl rfl rfl ?_)
      refine fp_goto (tgt := 4) dd_Mo_nextOf_33 rfl ?_
      exact fr_ret rfl
  · refine fp_iload_n (i := 2) (x := e12) dd_Mo_nextOf_36 rfl rfl (fr_pc (pc' := 37) rfl ?_)
    exact fr_iret (v := e12) rfl rfl dd_Mo_nextOf_37
theorem mt_Mo_endOf : sf_Mt ({ cls := "SplitFaresModel", name := "endOf", desc := "(I)I" } : Jvm.MethodName) prog_13_method_86_code 4 (some .int) 1 := ⟨sw_1550, sw_12, ⟨by decide, by decide, by decide +kernel⟩, by decide⟩
theorem dd_Mo_endOf_0 : decode prog_13_method_86_code 0 = .ok (.iconst 0, 1) := by decide +kernel
theorem dd_Mo_endOf_1 : decode prog_13_method_86_code 1 = .ok (.istore_n 2, 1) := by decide +kernel
theorem dd_Mo_endOf_2 : decode prog_13_method_86_code 2 = .ok (.iconst 0, 1) := by decide +kernel
theorem dd_Mo_endOf_3 : decode prog_13_method_86_code 3 = .ok (.istore_n 3, 1) := by decide +kernel
theorem dd_Mo_endOf_4 : decode prog_13_method_86_code 4 = .ok (.iload_n 3, 1) := by decide +kernel
theorem dd_Mo_endOf_5 : decode prog_13_method_86_code 5 = .ok (.iload_n 1, 1) := by decide +kernel
theorem dd_Mo_endOf_6 : decode prog_13_method_86_code 6 = .ok (.if_icmp .gt 27, 3) := by decide +kernel
theorem dd_Mo_endOf_9 : decode prog_13_method_86_code 9 = .ok (.iload_n 2, 1) := by decide +kernel
theorem dd_Mo_endOf_10 : decode prog_13_method_86_code 10 = .ok (.aload_n 0, 1) := by decide +kernel
theorem dd_Mo_endOf_11 : decode prog_13_method_86_code 11 = .ok (.getfield 345, 3) := by decide +kernel
theorem dd_Mo_endOf_14 : decode prog_13_method_86_code 14 = .ok (.iconst 1, 1) := by decide +kernel
theorem dd_Mo_endOf_15 : decode prog_13_method_86_code 15 = .ok (.isub, 1) := by decide +kernel
theorem dd_Mo_endOf_16 : decode prog_13_method_86_code 16 = .ok (.if_icmp .ne 5, 3) := by decide +kernel
theorem dd_Mo_endOf_19 : decode prog_13_method_86_code 19 = .ok (.iconst (-1), 1) := by decide +kernel
theorem dd_Mo_endOf_20 : decode prog_13_method_86_code 20 = .ok (.ireturn, 1) := by decide +kernel
theorem dd_Mo_endOf_21 : decode prog_13_method_86_code 21 = .ok (.aload_n 0, 1) := by decide +kernel
theorem dd_Mo_endOf_22 : decode prog_13_method_86_code 22 = .ok (.iload_n 2, 1) := by decide +kernel
theorem dd_Mo_endOf_23 : decode prog_13_method_86_code 23 = .ok (.invokevirtual 358, 3) := by decide +kernel
theorem dd_Mo_endOf_26 : decode prog_13_method_86_code 26 = .ok (.istore_n 2, 1) := by decide +kernel
theorem dd_Mo_endOf_27 : decode prog_13_method_86_code 27 = .ok (.iinc 3 1, 3) := by decide +kernel
theorem dd_Mo_endOf_30 : decode prog_13_method_86_code 30 = .ok (.goto (-26), 3) := by decide +kernel
theorem dd_Mo_endOf_33 : decode prog_13_method_86_code 33 = .ok (.aload_n 0, 1) := by decide +kernel
theorem dd_Mo_endOf_34 : decode prog_13_method_86_code 34 = .ok (.getfield 70, 3) := by decide +kernel
theorem dd_Mo_endOf_37 : decode prog_13_method_86_code 37 = .ok (.iload_n 2, 1) := by decide +kernel
theorem dd_Mo_endOf_38 : decode prog_13_method_86_code 38 = .ok (.iaload, 1) := by decide +kernel
theorem dd_Mo_endOf_39 : decode prog_13_method_86_code 39 = .ok (.ireturn, 1) := by decide +kernel
def jx_Mo_endOf (p0 : Option Nat) (p1 : Int32) : sf_M (Int32) :=
  sf_or (α := Int32) (β := (Int32)) (sf_loop (β := (Int32 × Int32)) (γ := (Int32 ⊕ (Int32))) (fun b1 =>
  if p1 < b1.2 then (
  sf_ret (.inr (.inr b1.1))
  ) else (
  sf_bnd (sf_gI 11 30 p0) fun x3 =>
  if b1.1 = (x3 - (1 : Int32)) then (
  sf_ret (.inr (.inl (-1 : Int32)))
  ) else (
  sf_bnd (sf_rc 11 p0 (jx_Mo_nextOf p0 b1.1)) fun x5 =>
  sf_bnd (sf_ret (b1.2 + (1 : Int32))) fun y6 =>
  sf_ret (.inl (x5, y6))
  )
  )
  ) sf_fuel ((0 : Int32), (0 : Int32))) (fun e7 =>
  sf_bnd (sf_gR 11 29 p0) fun x8 =>
  sf_bnd (sf_aI 0 x8 e7) fun x9 =>
  sf_ret x9
  )
set_option maxRecDepth 20000 in
set_option maxHeartbeats 4000000 in
theorem ok_Mo_endOf (p0 : Option Nat) (p1 : Int32) : sf_Ok ({ cls := "SplitFaresModel", name := "endOf", desc := "(I)I" } : Jvm.MethodName) prog_13_method_86_code 4 (some .int) 2 [sf_rv p0, .int p1] (jx_Mo_endOf p0 p1) (fun r => some (.int r)) := by
  refine sf_Ok.of (env := [some (sf_rv p0), some (.int p1), none, none]) (plainFor_of_name (by decide)) [false, false] (fun G => ⟨pk_r, pk_i, trivial⟩) (Nat.le_of_ble_eq_true rfl) rfl (fun X => ?_)
  unfold jx_Mo_endOf
  refine fp_iconst (v := (0 : Int32)) dd_Mo_endOf_0 (by decide) (fr_pc (pc' := 1) rfl ?_)
  refine fp_istore_n (i := 2) dd_Mo_endOf_1 rfl (Nat.le_of_ble_eq_true rfl) (fun _ => c1_i rfl) (fr_to (pc' := 2) (env' := [some (sf_rv p0), some (.int p1), some (.int (0 : Int32)), none]) (stk' := []) rfl rfl rfl ?_)
  refine fp_iconst (v := (0 : Int32)) dd_Mo_endOf_2 (by decide) (fr_pc (pc' := 3) rfl ?_)
  refine fp_istore_n (i := 3) dd_Mo_endOf_3 rfl (Nat.le_of_ble_eq_true rfl) (fun _ => c1_i rfl) (fr_to (pc' := 4) (env' := [some (sf_rv p0), some (.int p1), some (.int (0 : Int32)), some (.int (0 : Int32))]) (stk' := []) rfl rfl rfl ?_)
  refine fr_to (pc' := 4) (env' := [some (sf_rv p0), some (.int p1), some (.int (0 : Int32)), some (.int (0 : Int32))]) (stk' := []) rfl rfl rfl ?_
  refine fr_or (l1 := (fun (e7 : (Int32)) => sf_p 33 [some (sf_rv p0), some (.int p1), some (.int e7), none] [])) (fr_loop (Lb := (fun (b1 : (Int32 × Int32)) => sf_p 4 [some (sf_rv p0), some (.int p1), some (.int b1.1), some (.int b1.2)] [])) (fun b1 => ?_) _ _) (fun e7 => ?_)
  · refine fp_iload_n (i := 3) (x := b1.2) dd_Mo_endOf_4 rfl rfl (fr_pc (pc' := 5) rfl ?_)
    refine fp_iload_n (i := 1) (x := p1) dd_Mo_endOf_5 rfl rfl (fr_pc (pc' := 6) rfl ?_)
    refine fr_icmp_gt (tgt := 33) dd_Mo_endOf_6 rfl (fun _ => ?_) (fun _ => ?_)
    · refine fr_wk [true, true, true, false] ?_
      exact fr_ret rfl
    · refine fr_pc (pc' := 9) rfl ?_
      refine fp_iload_n (i := 2) (x := b1.1) dd_Mo_endOf_9 rfl rfl (fr_pc (pc' := 10) rfl ?_)
      refine fp_aload_n (i := 0) (r := p0) dd_Mo_endOf_10 rfl rfl (fr_pc (pc' := 11) rfl ?_)
      refine fr_gI cl_11 30 (by decide) rfl sw_1102 dd_Mo_endOf_11 (fun x3 => fr_pc (pc' := 14) rfl ?_)
      refine fp_iconst (v := (1 : Int32)) dd_Mo_endOf_14 (by decide) (fr_pc (pc' := 15) rfl ?_)
      refine fp_isub dd_Mo_endOf_15 (fr_pc (pc' := 16) rfl ?_)
      refine fr_icmp_ne (tgt := 21) dd_Mo_endOf_16 rfl (fun _ => ?_) (fun _ => ?_)
      · refine fr_pc (pc' := 19) rfl ?_
        refine fp_iconst (v := (-1 : Int32)) dd_Mo_endOf_19 (by decide) (fr_pc (pc' := 20) rfl ?_)
        exact fr_iret (v := (-1 : Int32)) rfl rfl dd_Mo_endOf_20
      · refine fp_aload_n (i := 0) (r := p0) dd_Mo_endOf_21 rfl rfl (fr_pc (pc' := 22) rfl ?_)
        refine fp_iload_n (i := 2) (x := b1.1) dd_Mo_endOf_22 rfl rfl (fr_pc (pc' := 23) rfl ?_)
        refine fr_callV (stk := []) (As := [.int b1.1]) cl_11 (ok_Mo_nextOf p0 b1.1) mt_Mo_nextOf rfl rfl sw_1551 sw_1553 sp_78 (by decide) (Nat.le_of_ble_eq_true rfl) dd_Mo_endOf_23 (fun x5 => fr_to (pc' := 26) (env' := [some (sf_rv p0), some (.int p1), some (.int b1.1), some (.int b1.2)]) (stk' := [.int x5]) rfl rfl rfl ?_)
        refine fp_istore_n (i := 2) dd_Mo_endOf_26 rfl (Nat.le_of_ble_eq_true rfl) (fun _ => c1_i rfl) (fr_to (pc' := 27) (env' := [some (sf_rv p0), some (.int p1), some (.int x5), some (.int b1.2)]) (stk' := []) rfl rfl rfl ?_)
        refine fr_niinc (i := 3) (x := b1.2) (w := (1 : Int32)) dd_Mo_endOf_27 rfl (by decide) (Nat.le_of_ble_eq_true rfl) (fun _ => c1_i rfl) (fun y6 => fr_to (pc' := 30) (env' := [some (sf_rv p0), some (.int p1), some (.int x5), some (.int y6)]) (stk' := []) rfl rfl rfl ?_)
        refine fp_goto (tgt := 4) dd_Mo_endOf_30 rfl ?_
        exact fr_ret rfl
  · refine fp_aload_n (i := 0) (r := p0) dd_Mo_endOf_33 rfl rfl (fr_pc (pc' := 34) rfl ?_)
    refine fr_gR cl_11 29 (by decide) rfl sw_1101 dd_Mo_endOf_34 (fun x8 => fr_pc (pc' := 37) rfl ?_)
    refine fp_iload_n (i := 2) (x := e7) dd_Mo_endOf_37 rfl rfl (fr_pc (pc' := 38) rfl ?_)
    refine fr_aI0 dd_Mo_endOf_38 (fun x9 => fr_pc (pc' := 39) rfl ?_)
    exact fr_iret (v := x9) rfl rfl dd_Mo_endOf_39
theorem mt_Mo_laidOr : sf_Mt ({ cls := "SplitFaresModel", name := "laidOr", desc := "()I" } : Jvm.MethodName) prog_13_method_87_code 1 (some .int) 0 := ⟨sw_1546, sw_12, ⟨by decide, by decide, by decide +kernel⟩, by decide⟩
theorem dd_Mo_laidOr_0 : decode prog_13_method_87_code 0 = .ok (.aload_n 0, 1) := by decide +kernel
theorem dd_Mo_laidOr_1 : decode prog_13_method_87_code 1 = .ok (.getfield 76, 3) := by decide +kernel
theorem dd_Mo_laidOr_4 : decode prog_13_method_87_code 4 = .ok (.iconst 0, 1) := by decide +kernel
theorem dd_Mo_laidOr_5 : decode prog_13_method_87_code 5 = .ok (.iaload, 1) := by decide +kernel
theorem dd_Mo_laidOr_6 : decode prog_13_method_87_code 6 = .ok (.ldc_w 348, 3) := by decide +kernel
theorem dd_Mo_laidOr_9 : decode prog_13_method_87_code 9 = .ok (.if_icmp .lt 7, 3) := by decide +kernel
theorem dd_Mo_laidOr_12 : decode prog_13_method_87_code 12 = .ok (.iconst (-1), 1) := by decide +kernel
theorem dd_Mo_laidOr_13 : decode prog_13_method_87_code 13 = .ok (.goto 9, 3) := by decide +kernel
theorem dd_Mo_laidOr_16 : decode prog_13_method_87_code 16 = .ok (.aload_n 0, 1) := by decide +kernel
theorem dd_Mo_laidOr_17 : decode prog_13_method_87_code 17 = .ok (.getfield 76, 3) := by decide +kernel
theorem dd_Mo_laidOr_20 : decode prog_13_method_87_code 20 = .ok (.iconst 0, 1) := by decide +kernel
theorem dd_Mo_laidOr_21 : decode prog_13_method_87_code 21 = .ok (.iaload, 1) := by decide +kernel
theorem dd_Mo_laidOr_22 : decode prog_13_method_87_code 22 = .ok (.ireturn, 1) := by decide +kernel
def jx_Mo_laidOr (p0 : Option Nat) : sf_M (Int32) :=
  sf_bnd (sf_gR 11 32 p0) fun x1 =>
  sf_bnd (sf_aI 0 x1 (0 : Int32)) fun x2 =>
  if x2 < (100000000 : Int32) then (
  sf_bnd (sf_gR 11 32 p0) fun x4 =>
  sf_bnd (sf_aI 0 x4 (0 : Int32)) fun x5 =>
  sf_ret x5
  ) else (
  sf_ret (-1 : Int32)
  )
set_option maxRecDepth 20000 in
set_option maxHeartbeats 4000000 in
theorem ok_Mo_laidOr (p0 : Option Nat) : sf_Ok ({ cls := "SplitFaresModel", name := "laidOr", desc := "()I" } : Jvm.MethodName) prog_13_method_87_code 1 (some .int) 0 [sf_rv p0] (jx_Mo_laidOr p0) (fun r => some (.int r)) := by
  refine sf_Ok.of (env := [some (sf_rv p0)]) (plainFor_of_name (by decide)) [false] (fun G => ⟨pk_r, trivial⟩) (Nat.le_of_ble_eq_true rfl) rfl (fun X => ?_)
  unfold jx_Mo_laidOr
  refine fp_aload_n (i := 0) (r := p0) dd_Mo_laidOr_0 rfl rfl (fr_pc (pc' := 1) rfl ?_)
  refine fr_gR cl_11 32 (by decide) rfl sw_1104 dd_Mo_laidOr_1 (fun x1 => fr_pc (pc' := 4) rfl ?_)
  refine fp_iconst (v := (0 : Int32)) dd_Mo_laidOr_4 (by decide) (fr_pc (pc' := 5) rfl ?_)
  refine fr_aI0 dd_Mo_laidOr_5 (fun x2 => fr_pc (pc' := 6) rfl ?_)
  refine fp_ldcw (v := (100000000 : Int32)) dd_Mo_laidOr_6 sw_1535 (fr_pc (pc' := 9) rfl ?_)
  refine fr_icmp_lt (tgt := 16) dd_Mo_laidOr_9 rfl (fun _ => ?_) (fun _ => ?_)
  · refine fp_aload_n (i := 0) (r := p0) dd_Mo_laidOr_16 rfl rfl (fr_pc (pc' := 17) rfl ?_)
    refine fr_gR cl_11 32 (by decide) rfl sw_1104 dd_Mo_laidOr_17 (fun x4 => fr_pc (pc' := 20) rfl ?_)
    refine fp_iconst (v := (0 : Int32)) dd_Mo_laidOr_20 (by decide) (fr_pc (pc' := 21) rfl ?_)
    refine fr_aI0 dd_Mo_laidOr_21 (fun x5 => fr_pc (pc' := 22) rfl ?_)
    exact fr_iret (v := x5) rfl rfl dd_Mo_laidOr_22
  · refine fr_pc (pc' := 12) rfl ?_
    refine fp_iconst (v := (-1 : Int32)) dd_Mo_laidOr_12 (by decide) (fr_pc (pc' := 13) rfl ?_)
    refine fp_goto (tgt := 22) dd_Mo_laidOr_13 rfl ?_
    exact fr_iret (v := (-1 : Int32)) rfl rfl dd_Mo_laidOr_22
theorem mt_Mo_canAsk : sf_Mt ({ cls := "SplitFaresModel", name := "canAsk", desc := "(III)Z" } : Jvm.MethodName) prog_13_method_88_code 4 (some .boolean) 3 := ⟨sw_1515, sw_12, ⟨by decide, by decide, by decide +kernel⟩, by decide⟩
theorem dd_Mo_canAsk_0 : decode prog_13_method_88_code 0 = .ok (.aload_n 0, 1) := by decide +kernel
theorem dd_Mo_canAsk_1 : decode prog_13_method_88_code 1 = .ok (.iload_n 1, 1) := by decide +kernel
theorem dd_Mo_canAsk_2 : decode prog_13_method_88_code 2 = .ok (.invokevirtual 132, 3) := by decide +kernel
theorem dd_Mo_canAsk_5 : decode prog_13_method_88_code 5 = .ok (.ifCond .eq 17, 3) := by decide +kernel
theorem dd_Mo_canAsk_8 : decode prog_13_method_88_code 8 = .ok (.aload_n 0, 1) := by decide +kernel
theorem dd_Mo_canAsk_9 : decode prog_13_method_88_code 9 = .ok (.iload_n 1, 1) := by decide +kernel
theorem dd_Mo_canAsk_10 : decode prog_13_method_88_code 10 = .ok (.iload_n 2, 1) := by decide +kernel
theorem dd_Mo_canAsk_11 : decode prog_13_method_88_code 11 = .ok (.iload_n 3, 1) := by decide +kernel
theorem dd_Mo_canAsk_12 : decode prog_13_method_88_code 12 = .ok (.invokevirtual 361, 3) := by decide +kernel
theorem dd_Mo_canAsk_15 : decode prog_13_method_88_code 15 = .ok (.ifCond .eq 7, 3) := by decide +kernel
theorem dd_Mo_canAsk_18 : decode prog_13_method_88_code 18 = .ok (.iconst 1, 1) := by decide +kernel
theorem dd_Mo_canAsk_19 : decode prog_13_method_88_code 19 = .ok (.goto 4, 3) := by decide +kernel
theorem dd_Mo_canAsk_22 : decode prog_13_method_88_code 22 = .ok (.iconst 0, 1) := by decide +kernel
theorem dd_Mo_canAsk_23 : decode prog_13_method_88_code 23 = .ok (.ireturn, 1) := by decide +kernel
def jx_Mo_canAsk (p0 : Option Nat) (p1 : Int32) (p2 : Int32) (p3 : Int32) : sf_M (Int32) :=
  sf_bnd (sf_rc 11 p0 (jx_Mo_isTrain p0 p1)) fun x1 =>
  if x1 = 0 then (
  sf_ret (0 : Int32)
  ) else (
  sf_bnd (sf_rc 11 p0 (jx_Mo_goes p0 p1 p2 p3)) fun x3 =>
  if x3 = 0 then (
  sf_ret (0 : Int32)
  ) else (
  sf_ret (1 : Int32)
  )
  )
set_option maxRecDepth 20000 in
set_option maxHeartbeats 4000000 in
theorem ok_Mo_canAsk (p0 : Option Nat) (p1 : Int32) (p2 : Int32) (p3 : Int32) : sf_Ok ({ cls := "SplitFaresModel", name := "canAsk", desc := "(III)Z" } : Jvm.MethodName) prog_13_method_88_code 4 (some .boolean) 4 [sf_rv p0, .int p1, .int p2, .int p3] (jx_Mo_canAsk p0 p1 p2 p3) (fun r => some (.int r)) := by
  refine sf_Ok.of (env := [some (sf_rv p0), some (.int p1), some (.int p2), some (.int p3)]) (plainFor_of_name (by decide)) [false, false, false, false] (fun G => ⟨pk_r, pk_i, pk_i, pk_i, trivial⟩) (Nat.le_of_ble_eq_true rfl) rfl (fun X => ?_)
  unfold jx_Mo_canAsk
  refine fp_aload_n (i := 0) (r := p0) dd_Mo_canAsk_0 rfl rfl (fr_pc (pc' := 1) rfl ?_)
  refine fp_iload_n (i := 1) (x := p1) dd_Mo_canAsk_1 rfl rfl (fr_pc (pc' := 2) rfl ?_)
  refine fr_callV (stk := []) (As := [.int p1]) cl_11 (ok_Mo_isTrain p0 p1) mt_Mo_isTrain rfl rfl sw_1274 sw_1276 sp_31 (by decide) (Nat.le_of_ble_eq_true rfl) dd_Mo_canAsk_2 (fun x1 => fr_to (pc' := 5) (env' := [some (sf_rv p0), some (.int p1), some (.int p2), some (.int p3)]) (stk' := [.int x1]) rfl rfl rfl ?_)
  refine fr_if_eq (tgt := 22) dd_Mo_canAsk_5 rfl (fun _ => ?_) (fun _ => ?_)
  · refine fp_iconst (v := (0 : Int32)) dd_Mo_canAsk_22 (by decide) (fr_pc (pc' := 23) rfl ?_)
    exact fr_zret0 (v := (0 : Int32)) (Or.inl rfl) rfl rfl dd_Mo_canAsk_23
  · refine fr_pc (pc' := 8) rfl ?_
    refine fp_aload_n (i := 0) (r := p0) dd_Mo_canAsk_8 rfl rfl (fr_pc (pc' := 9) rfl ?_)
    refine fp_iload_n (i := 1) (x := p1) dd_Mo_canAsk_9 rfl rfl (fr_pc (pc' := 10) rfl ?_)
    refine fp_iload_n (i := 2) (x := p2) dd_Mo_canAsk_10 rfl rfl (fr_pc (pc' := 11) rfl ?_)
    refine fp_iload_n (i := 3) (x := p3) dd_Mo_canAsk_11 rfl rfl (fr_pc (pc' := 12) rfl ?_)
    refine fr_callV (stk := []) (As := [.int p1, .int p2, .int p3]) cl_11 (ok_Mo_goes p0 p1 p2 p3) mt_Mo_goes rfl rfl sw_1516 sw_1518 sp_71 (by decide) (Nat.le_of_ble_eq_true rfl) dd_Mo_canAsk_12 (fun x3 => fr_to (pc' := 15) (env' := [some (sf_rv p0), some (.int p1), some (.int p2), some (.int p3)]) (stk' := [.int x3]) rfl rfl rfl ?_)
    refine fr_if_eq (tgt := 22) dd_Mo_canAsk_15 rfl (fun _ => ?_) (fun _ => ?_)
    · refine fp_iconst (v := (0 : Int32)) dd_Mo_canAsk_22 (by decide) (fr_pc (pc' := 23) rfl ?_)
      exact fr_zret0 (v := (0 : Int32)) (Or.inl rfl) rfl rfl dd_Mo_canAsk_23
    · refine fr_pc (pc' := 18) rfl ?_
      refine fp_iconst (v := (1 : Int32)) dd_Mo_canAsk_18 (by decide) (fr_pc (pc' := 19) rfl ?_)
      refine fp_goto (tgt := 23) dd_Mo_canAsk_19 rfl ?_
      exact fr_zret0 (v := (1 : Int32)) (Or.inr rfl) rfl rfl dd_Mo_canAsk_23
theorem mt_Mo_cheapestOf : sf_Mt ({ cls := "SplitFaresModel", name := "cheapestOf", desc := "(III)I" } : Jvm.MethodName) prog_13_method_89_code 4 (some .int) 3 := ⟨sw_1526, sw_12, ⟨by decide, by decide, by decide +kernel⟩, by decide⟩
theorem dd_Mo_cheapestOf_0 : decode prog_13_method_89_code 0 = .ok (.aload_n 0, 1) := by decide +kernel
theorem dd_Mo_cheapestOf_1 : decode prog_13_method_89_code 1 = .ok (.iload_n 1, 1) := by decide +kernel
theorem dd_Mo_cheapestOf_2 : decode prog_13_method_89_code 2 = .ok (.iload_n 2, 1) := by decide +kernel
theorem dd_Mo_cheapestOf_3 : decode prog_13_method_89_code 3 = .ok (.iload_n 3, 1) := by decide +kernel
theorem dd_Mo_cheapestOf_4 : decode prog_13_method_89_code 4 = .ok (.invokevirtual 361, 3) := by decide +kernel
theorem dd_Mo_cheapestOf_7 : decode prog_13_method_89_code 7 = .ok (.ifCond .ne 5, 3) := by decide +kernel
theorem dd_Mo_cheapestOf_10 : decode prog_13_method_89_code 10 = .ok (.iconst (-1), 1) := by decide +kernel
theorem dd_Mo_cheapestOf_11 : decode prog_13_method_89_code 11 = .ok (.ireturn, 1) := by decide +kernel
theorem dd_Mo_cheapestOf_12 : decode prog_13_method_89_code 12 = .ok (.aload_n 0, 1) := by decide +kernel
theorem dd_Mo_cheapestOf_13 : decode prog_13_method_89_code 13 = .ok (.iload_n 1, 1) := by decide +kernel
theorem dd_Mo_cheapestOf_14 : decode prog_13_method_89_code 14 = .ok (.iload_n 2, 1) := by decide +kernel
theorem dd_Mo_cheapestOf_15 : decode prog_13_method_89_code 15 = .ok (.iload_n 3, 1) := by decide +kernel
theorem dd_Mo_cheapestOf_16 : decode prog_13_method_89_code 16 = .ok (.invokevirtual 364, 3) := by decide +kernel
theorem dd_Mo_cheapestOf_19 : decode prog_13_method_89_code 19 = .ok (.aload_n 0, 1) := by decide +kernel
theorem dd_Mo_cheapestOf_20 : decode prog_13_method_89_code 20 = .ok (.iload_n 1, 1) := by decide +kernel
theorem dd_Mo_cheapestOf_21 : decode prog_13_method_89_code 21 = .ok (.invokevirtual 367, 3) := by decide +kernel
theorem dd_Mo_cheapestOf_24 : decode prog_13_method_89_code 24 = .ok (.aload_n 0, 1) := by decide +kernel
theorem dd_Mo_cheapestOf_25 : decode prog_13_method_89_code 25 = .ok (.invokevirtual 370, 3) := by decide +kernel
theorem dd_Mo_cheapestOf_28 : decode prog_13_method_89_code 28 = .ok (.aload_n 0, 1) := by decide +kernel
theorem dd_Mo_cheapestOf_29 : decode prog_13_method_89_code 29 = .ok (.invokevirtual 373, 3) := by decide +kernel
theorem dd_Mo_cheapestOf_32 : decode prog_13_method_89_code 32 = .ok (.ireturn, 1) := by decide +kernel
def jx_Mo_cheapestOf (p0 : Option Nat) (p1 : Int32) (p2 : Int32) (p3 : Int32) : sf_M (Int32) :=
  sf_bnd (sf_rc 11 p0 (jx_Mo_goes p0 p1 p2 p3)) fun x1 =>
  if x1 = 0 then (
  sf_ret (-1 : Int32)
  ) else (
  sf_bnd (sf_rc 11 p0 (jx_Mo_laysLine p0 p1 p2 p3)) fun _ =>
  sf_bnd (sf_rc 11 p0 (jx_Mo_laysSingles p0 p1)) fun _ =>
  sf_bnd (sf_rc 11 p0 (jx_Mo_laysLeft p0)) fun _ =>
  sf_bnd (sf_rc 11 p0 (jx_Mo_laidOr p0)) fun x6 =>
  sf_ret x6
  )
set_option maxRecDepth 20000 in
set_option maxHeartbeats 4000000 in
theorem ok_Mo_cheapestOf (p0 : Option Nat) (p1 : Int32) (p2 : Int32) (p3 : Int32) : sf_Ok ({ cls := "SplitFaresModel", name := "cheapestOf", desc := "(III)I" } : Jvm.MethodName) prog_13_method_89_code 4 (some .int) 208 [sf_rv p0, .int p1, .int p2, .int p3] (jx_Mo_cheapestOf p0 p1 p2 p3) (fun r => some (.int r)) := by
  refine sf_Ok.of (env := [some (sf_rv p0), some (.int p1), some (.int p2), some (.int p3)]) (plainFor_of_name (by decide)) [false, false, false, false] (fun G => ⟨pk_r, pk_i, pk_i, pk_i, trivial⟩) (Nat.le_of_ble_eq_true rfl) rfl (fun X => ?_)
  unfold jx_Mo_cheapestOf
  refine fp_aload_n (i := 0) (r := p0) dd_Mo_cheapestOf_0 rfl rfl (fr_pc (pc' := 1) rfl ?_)
  refine fp_iload_n (i := 1) (x := p1) dd_Mo_cheapestOf_1 rfl rfl (fr_pc (pc' := 2) rfl ?_)
  refine fp_iload_n (i := 2) (x := p2) dd_Mo_cheapestOf_2 rfl rfl (fr_pc (pc' := 3) rfl ?_)
  refine fp_iload_n (i := 3) (x := p3) dd_Mo_cheapestOf_3 rfl rfl (fr_pc (pc' := 4) rfl ?_)
  refine fr_callV (stk := []) (As := [.int p1, .int p2, .int p3]) cl_11 (ok_Mo_goes p0 p1 p2 p3) mt_Mo_goes rfl rfl sw_1516 sw_1518 sp_71 (by decide) (Nat.le_of_ble_eq_true rfl) dd_Mo_cheapestOf_4 (fun x1 => fr_to (pc' := 7) (env' := [some (sf_rv p0), some (.int p1), some (.int p2), some (.int p3)]) (stk' := [.int x1]) rfl rfl rfl ?_)
  refine fr_if_ne (tgt := 12) dd_Mo_cheapestOf_7 rfl (fun _ => ?_) (fun _ => ?_)
  · refine fr_pc (pc' := 10) rfl ?_
    refine fp_iconst (v := (-1 : Int32)) dd_Mo_cheapestOf_10 (by decide) (fr_pc (pc' := 11) rfl ?_)
    exact fr_iret (v := (-1 : Int32)) rfl rfl dd_Mo_cheapestOf_11
  · refine fp_aload_n (i := 0) (r := p0) dd_Mo_cheapestOf_12 rfl rfl (fr_pc (pc' := 13) rfl ?_)
    refine fp_iload_n (i := 1) (x := p1) dd_Mo_cheapestOf_13 rfl rfl (fr_pc (pc' := 14) rfl ?_)
    refine fp_iload_n (i := 2) (x := p2) dd_Mo_cheapestOf_14 rfl rfl (fr_pc (pc' := 15) rfl ?_)
    refine fp_iload_n (i := 3) (x := p3) dd_Mo_cheapestOf_15 rfl rfl (fr_pc (pc' := 16) rfl ?_)
    refine fr_callV (stk := []) (As := [.int p1, .int p2, .int p3]) cl_11 (ok_Mo_laysLine p0 p1 p2 p3) mt_Mo_laysLine rfl rfl sw_1527 sw_1529 sp_73 (by decide) (Nat.le_of_ble_eq_true rfl) dd_Mo_cheapestOf_16 (fun u3 => fr_to (pc' := 19) (env' := [some (sf_rv p0), some (.int p1), some (.int p2), some (.int p3)]) (stk' := []) rfl rfl rfl ?_)
    refine fp_aload_n (i := 0) (r := p0) dd_Mo_cheapestOf_19 rfl rfl (fr_pc (pc' := 20) rfl ?_)
    refine fp_iload_n (i := 1) (x := p1) dd_Mo_cheapestOf_20 rfl rfl (fr_pc (pc' := 21) rfl ?_)
    refine fr_callV (stk := []) (As := [.int p1]) cl_11 (ok_Mo_laysSingles p0 p1) mt_Mo_laysSingles rfl rfl sw_1531 sw_1533 sp_74 (by decide) (Nat.le_of_ble_eq_true rfl) dd_Mo_cheapestOf_21 (fun u4 => fr_to (pc' := 24) (env' := [some (sf_rv p0), some (.int p1), some (.int p2), some (.int p3)]) (stk' := []) rfl rfl rfl ?_)
    refine fp_aload_n (i := 0) (r := p0) dd_Mo_cheapestOf_24 rfl rfl (fr_pc (pc' := 25) rfl ?_)
    refine fr_callV (stk := []) (As := []) cl_11 (ok_Mo_laysLeft p0) mt_Mo_laysLeft rfl rfl sw_1536 sw_1538 sp_75 (by decide) (Nat.le_of_ble_eq_true rfl) dd_Mo_cheapestOf_25 (fun u5 => fr_to (pc' := 28) (env' := [some (sf_rv p0), some (.int p1), some (.int p2), some (.int p3)]) (stk' := []) rfl rfl rfl ?_)
    refine fp_aload_n (i := 0) (r := p0) dd_Mo_cheapestOf_28 rfl rfl (fr_pc (pc' := 29) rfl ?_)
    refine fr_callV (stk := []) (As := []) cl_11 (ok_Mo_laidOr p0) mt_Mo_laidOr rfl rfl sw_1543 sw_1545 sp_76 (by decide) (Nat.le_of_ble_eq_true rfl) dd_Mo_cheapestOf_29 (fun x6 => fr_to (pc' := 32) (env' := [some (sf_rv p0), some (.int p1), some (.int p2), some (.int p3)]) (stk' := [.int x6]) rfl rfl rfl ?_)
    exact fr_iret (v := x6) rfl rfl dd_Mo_cheapestOf_32
theorem mt_Mo_cheapest : sf_Mt ({ cls := "SplitFaresModel", name := "cheapest", desc := "(IIII)I" } : Jvm.MethodName) prog_13_method_90_code 6 (some .int) 4 := ⟨sw_1511, sw_12, ⟨by decide, by decide, by decide +kernel⟩, by decide⟩
theorem dd_Mo_cheapest_0 : decode prog_13_method_90_code 0 = .ok (.aload_n 0, 1) := by decide +kernel
theorem dd_Mo_cheapest_1 : decode prog_13_method_90_code 1 = .ok (.iload_n 1, 1) := by decide +kernel
theorem dd_Mo_cheapest_2 : decode prog_13_method_90_code 2 = .ok (.iload_n 2, 1) := by decide +kernel
theorem dd_Mo_cheapest_3 : decode prog_13_method_90_code 3 = .ok (.iload_n 3, 1) := by decide +kernel
theorem dd_Mo_cheapest_4 : decode prog_13_method_90_code 4 = .ok (.invokevirtual 376, 3) := by decide +kernel
theorem dd_Mo_cheapest_7 : decode prog_13_method_90_code 7 = .ok (.ifCond .eq 9, 3) := by decide +kernel
theorem dd_Mo_cheapest_10 : decode prog_13_method_90_code 10 = .ok (.iload 4, 2) := by decide +kernel
theorem dd_Mo_cheapest_12 : decode prog_13_method_90_code 12 = .ok (.iconst (-1), 1) := by decide +kernel
theorem dd_Mo_cheapest_13 : decode prog_13_method_90_code 13 = .ok (.if_icmp .ge 5, 3) := by decide +kernel
theorem dd_Mo_cheapest_18 : decode prog_13_method_90_code 18 = .ok (.aload_n 0, 1) := by decide +kernel
theorem dd_Mo_cheapest_19 : decode prog_13_method_90_code 19 = .ok (.iload_n 1, 1) := by decide +kernel
theorem dd_Mo_cheapest_20 : decode prog_13_method_90_code 20 = .ok (.iload_n 2, 1) := by decide +kernel
theorem dd_Mo_cheapest_21 : decode prog_13_method_90_code 21 = .ok (.iload_n 3, 1) := by decide +kernel
theorem dd_Mo_cheapest_22 : decode prog_13_method_90_code 22 = .ok (.invokevirtual 379, 3) := by decide +kernel
theorem dd_Mo_cheapest_25 : decode prog_13_method_90_code 25 = .ok (.istore 5, 2) := by decide +kernel
theorem dd_Mo_cheapest_27 : decode prog_13_method_90_code 27 = .ok (.iload 5, 2) := by decide +kernel
theorem dd_Mo_cheapest_29 : decode prog_13_method_90_code 29 = .ok (.iconst (-1), 1) := by decide +kernel
theorem dd_Mo_cheapest_30 : decode prog_13_method_90_code 30 = .ok (.if_icmp .eq 9, 3) := by decide +kernel
theorem dd_Mo_cheapest_33 : decode prog_13_method_90_code 33 = .ok (.iload 4, 2) := by decide +kernel
theorem dd_Mo_cheapest_35 : decode prog_13_method_90_code 35 = .ok (.iconst (-1), 1) := by decide +kernel
theorem dd_Mo_cheapest_36 : decode prog_13_method_90_code 36 = .ok (.if_icmp .ne 8, 3) := by decide +kernel
theorem dd_Mo_cheapest_44 : decode prog_13_method_90_code 44 = .ok (.aload_n 0, 1) := by decide +kernel
theorem dd_Mo_cheapest_45 : decode prog_13_method_90_code 45 = .ok (.iload 4, 2) := by decide +kernel
theorem dd_Mo_cheapest_47 : decode prog_13_method_90_code 47 = .ok (.invokevirtual 382, 3) := by decide +kernel
theorem dd_Mo_cheapest_39 : decode prog_13_method_90_code 39 = .ok (.iload 5, 2) := by decide +kernel
theorem dd_Mo_cheapest_41 : decode prog_13_method_90_code 41 = .ok (.goto 9, 3) := by decide +kernel
theorem dd_Mo_cheapest_50 : decode prog_13_method_90_code 50 = .ok (.ireturn, 1) := by decide +kernel
theorem dd_Mo_cheapest_16 : decode prog_13_method_90_code 16 = .ok (.iconst (-1), 1) := by decide +kernel
theorem dd_Mo_cheapest_17 : decode prog_13_method_90_code 17 = .ok (.ireturn, 1) := by decide +kernel
def jx_Mo_cheapest (p0 : Option Nat) (p1 : Int32) (p2 : Int32) (p3 : Int32) (p4 : Int32) : sf_M (Int32) :=
  sf_bnd (sf_rc 11 p0 (jx_Mo_canAsk p0 p1 p2 p3)) fun x1 =>
  if x1 = 0 then (
  sf_ret (-1 : Int32)
  ) else (
  if (-1 : Int32) ≤ p4 then (
  sf_bnd (sf_rc 11 p0 (jx_Mo_cheapestOf p0 p1 p2 p3)) fun x4 =>
  if x4 = (-1 : Int32) then (
  sf_ret x4
  ) else (
  if p4 = (-1 : Int32) then (
  sf_ret x4
  ) else (
  sf_bnd (sf_rc 11 p0 (jx_Mo_endOf p0 p4)) fun x7 =>
  sf_ret x7
  )
  )
  ) else (
  sf_ret (-1 : Int32)
  )
  )
set_option maxRecDepth 20000 in
set_option maxHeartbeats 4000000 in
theorem ok_Mo_cheapest (p0 : Option Nat) (p1 : Int32) (p2 : Int32) (p3 : Int32) (p4 : Int32) : sf_Ok ({ cls := "SplitFaresModel", name := "cheapest", desc := "(IIII)I" } : Jvm.MethodName) prog_13_method_90_code 6 (some .int) 209 [sf_rv p0, .int p1, .int p2, .int p3, .int p4] (jx_Mo_cheapest p0 p1 p2 p3 p4) (fun r => some (.int r)) := by
  refine sf_Ok.of (env := [some (sf_rv p0), some (.int p1), some (.int p2), some (.int p3), some (.int p4), none]) (plainFor_of_name (by decide)) [false, false, false, false, false] (fun G => ⟨pk_r, pk_i, pk_i, pk_i, pk_i, trivial⟩) (Nat.le_of_ble_eq_true rfl) rfl (fun X => ?_)
  unfold jx_Mo_cheapest
  refine fp_aload_n (i := 0) (r := p0) dd_Mo_cheapest_0 rfl rfl (fr_pc (pc' := 1) rfl ?_)
  refine fp_iload_n (i := 1) (x := p1) dd_Mo_cheapest_1 rfl rfl (fr_pc (pc' := 2) rfl ?_)
  refine fp_iload_n (i := 2) (x := p2) dd_Mo_cheapest_2 rfl rfl (fr_pc (pc' := 3) rfl ?_)
  refine fp_iload_n (i := 3) (x := p3) dd_Mo_cheapest_3 rfl rfl (fr_pc (pc' := 4) rfl ?_)
  refine fr_callV (stk := []) (As := [.int p1, .int p2, .int p3]) cl_11 (ok_Mo_canAsk p0 p1 p2 p3) mt_Mo_canAsk rfl rfl sw_1512 sw_1514 sp_70 (by decide) (Nat.le_of_ble_eq_true rfl) dd_Mo_cheapest_4 (fun x1 => fr_to (pc' := 7) (env' := [some (sf_rv p0), some (.int p1), some (.int p2), some (.int p3), some (.int p4), none]) (stk' := [.int x1]) rfl rfl rfl ?_)
  refine fr_if_eq (tgt := 16) dd_Mo_cheapest_7 rfl (fun _ => ?_) (fun _ => ?_)
  · refine fp_iconst (v := (-1 : Int32)) dd_Mo_cheapest_16 (by decide) (fr_pc (pc' := 17) rfl ?_)
    exact fr_iret (v := (-1 : Int32)) rfl rfl dd_Mo_cheapest_17
  · refine fr_pc (pc' := 10) rfl ?_
    refine fp_iload (i := 4) (x := p4) dd_Mo_cheapest_10 rfl (fr_pc (pc' := 12) rfl ?_)
    refine fp_iconst (v := (-1 : Int32)) dd_Mo_cheapest_12 (by decide) (fr_pc (pc' := 13) rfl ?_)
    refine fr_icmp_ge (tgt := 18) dd_Mo_cheapest_13 rfl (fun _ => ?_) (fun _ => ?_)
    · refine fp_aload_n (i := 0) (r := p0) dd_Mo_cheapest_18 rfl rfl (fr_pc (pc' := 19) rfl ?_)
      refine fp_iload_n (i := 1) (x := p1) dd_Mo_cheapest_19 rfl rfl (fr_pc (pc' := 20) rfl ?_)
      refine fp_iload_n (i := 2) (x := p2) dd_Mo_cheapest_20 rfl rfl (fr_pc (pc' := 21) rfl ?_)
      refine fp_iload_n (i := 3) (x := p3) dd_Mo_cheapest_21 rfl rfl (fr_pc (pc' := 22) rfl ?_)
      refine fr_callV (stk := []) (As := [.int p1, .int p2, .int p3]) cl_11 (ok_Mo_cheapestOf p0 p1 p2 p3) mt_Mo_cheapestOf rfl rfl sw_1523 sw_1525 sp_72 (by decide) (Nat.le_of_ble_eq_true rfl) dd_Mo_cheapest_22 (fun x4 => fr_to (pc' := 25) (env' := [some (sf_rv p0), some (.int p1), some (.int p2), some (.int p3), some (.int p4), none]) (stk' := [.int x4]) rfl rfl rfl ?_)
      refine fp_istore (i := 5) dd_Mo_cheapest_25 (Nat.le_of_ble_eq_true rfl) (fun _ => c1_i rfl) (fr_to (pc' := 27) (env' := [some (sf_rv p0), some (.int p1), some (.int p2), some (.int p3), some (.int p4), some (.int x4)]) (stk' := []) rfl rfl rfl ?_)
      refine fp_iload (i := 5) (x := x4) dd_Mo_cheapest_27 rfl (fr_pc (pc' := 29) rfl ?_)
      refine fp_iconst (v := (-1 : Int32)) dd_Mo_cheapest_29 (by decide) (fr_pc (pc' := 30) rfl ?_)
      refine fr_icmp_eq (tgt := 39) dd_Mo_cheapest_30 rfl (fun _ => ?_) (fun _ => ?_)
      · refine fp_iload (i := 5) (x := x4) dd_Mo_cheapest_39 rfl (fr_pc (pc' := 41) rfl ?_)
        refine fp_goto (tgt := 50) dd_Mo_cheapest_41 rfl ?_
        exact fr_iret (v := x4) rfl rfl dd_Mo_cheapest_50
      · refine fr_pc (pc' := 33) rfl ?_
        refine fp_iload (i := 4) (x := p4) dd_Mo_cheapest_33 rfl (fr_pc (pc' := 35) rfl ?_)
        refine fp_iconst (v := (-1 : Int32)) dd_Mo_cheapest_35 (by decide) (fr_pc (pc' := 36) rfl ?_)
        refine fr_icmp_ne (tgt := 44) dd_Mo_cheapest_36 rfl (fun _ => ?_) (fun _ => ?_)
        · refine fr_pc (pc' := 39) rfl ?_
          refine fp_iload (i := 5) (x := x4) dd_Mo_cheapest_39 rfl (fr_pc (pc' := 41) rfl ?_)
          refine fp_goto (tgt := 50) dd_Mo_cheapest_41 rfl ?_
          exact fr_iret (v := x4) rfl rfl dd_Mo_cheapest_50
        · refine fp_aload_n (i := 0) (r := p0) dd_Mo_cheapest_44 rfl rfl (fr_pc (pc' := 45) rfl ?_)
          refine fp_iload (i := 4) (x := p4) dd_Mo_cheapest_45 rfl (fr_pc (pc' := 47) rfl ?_)
          refine fr_callV (stk := []) (As := [.int p4]) cl_11 (ok_Mo_endOf p0 p4) mt_Mo_endOf rfl rfl sw_1547 sw_1549 sp_77 (by decide) (Nat.le_of_ble_eq_true rfl) dd_Mo_cheapest_47 (fun x7 => fr_to (pc' := 50) (env' := [some (sf_rv p0), some (.int p1), some (.int p2), some (.int p3), some (.int p4), some (.int x4)]) (stk' := [.int x7]) rfl rfl rfl ?_)
          exact fr_iret (v := x7) rfl rfl dd_Mo_cheapest_50
    · refine fr_pc (pc' := 16) rfl ?_
      refine fp_iconst (v := (-1 : Int32)) dd_Mo_cheapest_16 (by decide) (fr_pc (pc' := 17) rfl ?_)
      exact fr_iret (v := (-1 : Int32)) rfl rfl dd_Mo_cheapest_17
theorem mt_Mo_laysBy : sf_Mt ({ cls := "SplitFaresModel", name := "laysBy", desc := "()V" } : Jvm.MethodName) prog_13_method_91_code 5 none 0 := ⟨sw_1562, sw_12, ⟨by decide, by decide, by decide +kernel⟩, by decide⟩
theorem dd_Mo_laysBy_0 : decode prog_13_method_91_code 0 = .ok (.iconst 0, 1) := by decide +kernel
theorem dd_Mo_laysBy_1 : decode prog_13_method_91_code 1 = .ok (.istore_n 1, 1) := by decide +kernel
theorem dd_Mo_laysBy_2 : decode prog_13_method_91_code 2 = .ok (.iload_n 1, 1) := by decide +kernel
theorem dd_Mo_laysBy_3 : decode prog_13_method_91_code 3 = .ok (.bipush 8, 2) := by decide +kernel
theorem dd_Mo_laysBy_5 : decode prog_13_method_91_code 5 = .ok (.if_icmp .ge 117, 3) := by decide +kernel
theorem dd_Mo_laysBy_8 : decode prog_13_method_91_code 8 = .ok (.aload_n 0, 1) := by decide +kernel
theorem dd_Mo_laysBy_9 : decode prog_13_method_91_code 9 = .ok (.getfield 345, 3) := by decide +kernel
theorem dd_Mo_laysBy_12 : decode prog_13_method_91_code 12 = .ok (.iconst 1, 1) := by decide +kernel
theorem dd_Mo_laysBy_13 : decode prog_13_method_91_code 13 = .ok (.isub, 1) := by decide +kernel
theorem dd_Mo_laysBy_14 : decode prog_13_method_91_code 14 = .ok (.istore_n 2, 1) := by decide +kernel
theorem dd_Mo_laysBy_15 : decode prog_13_method_91_code 15 = .ok (.iload_n 2, 1) := by decide +kernel
theorem dd_Mo_laysBy_16 : decode prog_13_method_91_code 16 = .ok (.ifCond .lt 100, 3) := by decide +kernel
theorem dd_Mo_laysBy_19 : decode prog_13_method_91_code 19 = .ok (.iload_n 2, 1) := by decide +kernel
theorem dd_Mo_laysBy_20 : decode prog_13_method_91_code 20 = .ok (.aload_n 0, 1) := by decide +kernel
theorem dd_Mo_laysBy_21 : decode prog_13_method_91_code 21 = .ok (.getfield 345, 3) := by decide +kernel
theorem dd_Mo_laysBy_24 : decode prog_13_method_91_code 24 = .ok (.iconst 1, 1) := by decide +kernel
theorem dd_Mo_laysBy_25 : decode prog_13_method_91_code 25 = .ok (.isub, 1) := by decide +kernel
theorem dd_Mo_laysBy_26 : decode prog_13_method_91_code 26 = .ok (.if_icmp .ne 7, 3) := by decide +kernel
theorem dd_Mo_laysBy_29 : decode prog_13_method_91_code 29 = .ok (.iconst 0, 1) := by decide +kernel
theorem dd_Mo_laysBy_30 : decode prog_13_method_91_code 30 = .ok (.goto 6, 3) := by decide +kernel
theorem dd_Mo_laysBy_33 : decode prog_13_method_91_code 33 = .ok (.ldc_w 348, 3) := by decide +kernel
theorem dd_Mo_laysBy_36 : decode prog_13_method_91_code 36 = .ok (.istore_n 3, 1) := by decide +kernel
theorem dd_Mo_laysBy_37 : decode prog_13_method_91_code 37 = .ok (.iload_n 2, 1) := by decide +kernel
theorem dd_Mo_laysBy_38 : decode prog_13_method_91_code 38 = .ok (.iconst 1, 1) := by decide +kernel
theorem dd_Mo_laysBy_39 : decode prog_13_method_91_code 39 = .ok (.iadd, 1) := by decide +kernel
theorem dd_Mo_laysBy_40 : decode prog_13_method_91_code 40 = .ok (.istore 4, 2) := by decide +kernel
theorem dd_Mo_laysBy_42 : decode prog_13_method_91_code 42 = .ok (.iload 4, 2) := by decide +kernel
theorem dd_Mo_laysBy_44 : decode prog_13_method_91_code 44 = .ok (.aload_n 0, 1) := by decide +kernel
theorem dd_Mo_laysBy_45 : decode prog_13_method_91_code 45 = .ok (.getfield 345, 3) := by decide +kernel
theorem dd_Mo_laysBy_48 : decode prog_13_method_91_code 48 = .ok (.if_icmp .ge 44, 3) := by decide +kernel
theorem dd_Mo_laysBy_51 : decode prog_13_method_91_code 51 = .ok (.iload_n 1, 1) := by decide +kernel
theorem dd_Mo_laysBy_52 : decode prog_13_method_91_code 52 = .ok (.ifCond .le 40, 3) := by decide +kernel
theorem dd_Mo_laysBy_55 : decode prog_13_method_91_code 55 = .ok (.iload_n 3, 1) := by decide +kernel
theorem dd_Mo_laysBy_56 : decode prog_13_method_91_code 56 = .ok (.aload_n 0, 1) := by decide +kernel
theorem dd_Mo_laysBy_57 : decode prog_13_method_91_code 57 = .ok (.getfield 73, 3) := by decide +kernel
theorem dd_Mo_laysBy_60 : decode prog_13_method_91_code 60 = .ok (.iload_n 2, 1) := by decide +kernel
theorem dd_Mo_laysBy_61 : decode prog_13_method_91_code 61 = .ok (.iload 4, 2) := by decide +kernel
theorem dd_Mo_laysBy_63 : decode prog_13_method_91_code 63 = .ok (.invokestatic 135, 3) := by decide +kernel
theorem dd_Mo_laysBy_66 : decode prog_13_method_91_code 66 = .ok (.iaload, 1) := by decide +kernel
theorem dd_Mo_laysBy_67 : decode prog_13_method_91_code 67 = .ok (.aload_n 0, 1) := by decide +kernel
theorem dd_Mo_laysBy_68 : decode prog_13_method_91_code 68 = .ok (.getfield 79, 3) := by decide +kernel
theorem dd_Mo_laysBy_71 : decode prog_13_method_91_code 71 = .ok (.bipush 8, 2) := by decide +kernel
theorem dd_Mo_laysBy_73 : decode prog_13_method_91_code 73 = .ok (.iload_n 1, 1) := by decide +kernel
theorem dd_Mo_laysBy_74 : decode prog_13_method_91_code 74 = .ok (.iconst 1, 1) := by decide +kernel
theorem dd_Mo_laysBy_75 : decode prog_13_method_91_code 75 = .ok (.isub, 1) := by decide +kernel
theorem dd_Mo_laysBy_76 : decode prog_13_method_91_code 76 = .ok (.imul, 1) := by decide +kernel
theorem dd_Mo_laysBy_77 : decode prog_13_method_91_code 77 = .ok (.iload 4, 2) := by decide +kernel
theorem dd_Mo_laysBy_79 : decode prog_13_method_91_code 79 = .ok (.iadd, 1) := by decide +kernel
theorem dd_Mo_laysBy_80 : decode prog_13_method_91_code 80 = .ok (.iaload, 1) := by decide +kernel
theorem dd_Mo_laysBy_81 : decode prog_13_method_91_code 81 = .ok (.iadd, 1) := by decide +kernel
theorem dd_Mo_laysBy_82 : decode prog_13_method_91_code 82 = .ok (.invokestatic 355, 3) := by decide +kernel
theorem dd_Mo_laysBy_85 : decode prog_13_method_91_code 85 = .ok (.istore_n 3, 1) := by decide +kernel
theorem dd_Mo_laysBy_86 : decode prog_13_method_91_code 86 = .ok (.iinc 4 1, 3) := by decide +kernel
theorem dd_Mo_laysBy_89 : decode prog_13_method_91_code 89 = .ok (.goto (-47), 3) := by decide +kernel
theorem dd_Mo_laysBy_92 : decode prog_13_method_91_code 92 = .ok (.aload_n 0, 1) := by decide +kernel
theorem dd_Mo_laysBy_93 : decode prog_13_method_91_code 93 = .ok (.getfield 79, 3) := by decide +kernel
theorem dd_Mo_laysBy_96 : decode prog_13_method_91_code 96 = .ok (.bipush 8, 2) := by decide +kernel
theorem dd_Mo_laysBy_98 : decode prog_13_method_91_code 98 = .ok (.iload_n 1, 1) := by decide +kernel
theorem dd_Mo_laysBy_99 : decode prog_13_method_91_code 99 = .ok (.imul, 1) := by decide +kernel
theorem dd_Mo_laysBy_100 : decode prog_13_method_91_code 100 = .ok (.iload_n 2, 1) := by decide +kernel
theorem dd_Mo_laysBy_101 : decode prog_13_method_91_code 101 = .ok (.iadd, 1) := by decide +kernel
theorem dd_Mo_laysBy_102 : decode prog_13_method_91_code 102 = .ok (.ldc_w 348, 3) := by decide +kernel
theorem dd_Mo_laysBy_105 : decode prog_13_method_91_code 105 = .ok (.iload_n 3, 1) := by decide +kernel
theorem dd_Mo_laysBy_106 : decode prog_13_method_91_code 106 = .ok (.invokestatic 355, 3) := by decide +kernel
theorem dd_Mo_laysBy_109 : decode prog_13_method_91_code 109 = .ok (.iastore, 1) := by decide +kernel
theorem dd_Mo_laysBy_110 : decode prog_13_method_91_code 110 = .ok (.iinc 2 (-1), 3) := by decide +kernel
theorem dd_Mo_laysBy_113 : decode prog_13_method_91_code 113 = .ok (.goto (-98), 3) := by decide +kernel
theorem dd_Mo_laysBy_116 : decode prog_13_method_91_code 116 = .ok (.iinc 1 1, 3) := by decide +kernel
theorem dd_Mo_laysBy_119 : decode prog_13_method_91_code 119 = .ok (.goto (-117), 3) := by decide +kernel
theorem dd_Mo_laysBy_122 : decode prog_13_method_91_code 122 = .ok (.return_, 1) := by decide +kernel
def jx_Mo_laysBy (p0 : Option Nat) : sf_M (Unit) :=
  sf_bnd (sf_loop (β := (Int32)) (γ := (Unit)) (fun b1 =>
  if (8 : Int32) ≤ b1 then (
  sf_ret (.inr ())
  ) else (
  sf_bnd (sf_gI 11 30 p0) fun x3 =>
  sf_bnd (sf_ret ((x3 - (1 : Int32)))) fun y4 =>
  sf_bnd (sf_loop (β := (Int32)) (γ := (Unit)) (fun b5 =>
  if b5 < 0 then (
  sf_ret (.inr ())
  ) else (
  sf_bnd (sf_gI 11 30 p0) fun x7 =>
  sf_bnd (α := (Int32)) (
  if b5 = (x7 - (1 : Int32)) then (
  sf_ret (0 : Int32)
  ) else (
  sf_ret (100000000 : Int32)
  )
  ) (fun v9 =>
  sf_bnd (sf_ret ((b5 + (1 : Int32)))) fun y10 =>
  sf_bnd (sf_loop (β := (Int32 × Int32)) (γ := (Int32)) (fun b11 =>
  sf_bnd (sf_gI 11 30 p0) fun x12 =>
  if x12 ≤ b11.2 then (
  sf_ret (.inr b11.1)
  ) else (
  if b1 ≤ 0 then (
  sf_ret (.inr b11.1)
  ) else (
  sf_bnd (sf_gR 11 31 p0) fun x15 =>
  sf_bnd (jx_Mo_pairAt b5 b11.2) fun x16 =>
  sf_bnd (sf_aI 0 x15 x16) fun x17 =>
  sf_bnd (sf_gR 11 33 p0) fun x18 =>
  sf_bnd (sf_aI 0 x18 (((8 : Int32) * (b1 - (1 : Int32))) + b11.2)) fun x19 =>
  sf_bnd (jx_Mo_lesser b11.1 (x17 + x19)) fun x20 =>
  sf_bnd (sf_ret (b11.2 + (1 : Int32))) fun y21 =>
  sf_ret (.inl (x20, y21))
  )
  )
  ) sf_fuel (v9, y10)) (fun e22 =>
  sf_bnd (sf_gR 11 33 p0) fun x23 =>
  sf_bnd (jx_Mo_lesser (100000000 : Int32) e22) fun x24 =>
  sf_bnd (sf_sI 0 x23 (((8 : Int32) * b1) + b5) x24) fun _ =>
  sf_bnd (sf_ret (b5 + (-1 : Int32))) fun y25 =>
  sf_ret (.inl y25)
  )
  )
  )
  ) sf_fuel y4) (fun e26 =>
  sf_bnd (sf_ret (b1 + (1 : Int32))) fun y27 =>
  sf_ret (.inl y27)
  )
  )
  ) sf_fuel (0 : Int32)) (fun e28 =>
  sf_ret ()
  )
set_option maxRecDepth 20000 in
set_option maxHeartbeats 4000000 in
theorem ok_Mo_laysBy (p0 : Option Nat) : sf_Ok ({ cls := "SplitFaresModel", name := "laysBy", desc := "()V" } : Jvm.MethodName) prog_13_method_91_code 5 none 1 [sf_rv p0] (jx_Mo_laysBy p0) (fun _ => none) := by
  refine sf_Ok.of (env := [some (sf_rv p0), none, none, none, none]) (plainFor_of_name (by decide)) [false] (fun G => ⟨pk_r, trivial⟩) (Nat.le_of_ble_eq_true rfl) rfl (fun X => ?_)
  unfold jx_Mo_laysBy
  refine fp_iconst (v := (0 : Int32)) dd_Mo_laysBy_0 (by decide) (fr_pc (pc' := 1) rfl ?_)
  refine fp_istore_n (i := 1) dd_Mo_laysBy_1 rfl (Nat.le_of_ble_eq_true rfl) (fun _ => c1_r rfl) (fr_to (pc' := 2) (env' := [some (sf_rv p0), some (.int (0 : Int32)), none, none, none]) (stk' := []) rfl rfl rfl ?_)
  refine fr_to (pc' := 2) (env' := [some (sf_rv p0), some (.int (0 : Int32)), none, none, none]) (stk' := []) rfl rfl rfl ?_
  refine fr_bnd (l1 := (fun (e28 : (Unit)) => sf_p 122 [some (sf_rv p0), none, none, none, none] [])) (fr_loop (Lb := (fun (b1 : (Int32)) => sf_p 2 [some (sf_rv p0), some (.int b1), none, none, none] [])) (fun b1 => ?_) _ _) (fun e28 => ?_)
  · refine fp_iload_n (i := 1) (x := b1) dd_Mo_laysBy_2 rfl rfl (fr_pc (pc' := 3) rfl ?_)
    refine fp_bipush (v := (8 : Int32)) dd_Mo_laysBy_3 (by decide) (fr_pc (pc' := 5) rfl ?_)
    refine fr_icmp_ge (tgt := 122) dd_Mo_laysBy_5 rfl (fun _ => ?_) (fun _ => ?_)
    · refine fr_wk [true, false, false, false, false] ?_
      exact fr_ret rfl
    · refine fr_pc (pc' := 8) rfl ?_
      refine fp_aload_n (i := 0) (r := p0) dd_Mo_laysBy_8 rfl rfl (fr_pc (pc' := 9) rfl ?_)
      refine fr_gI cl_11 30 (by decide) rfl sw_1102 dd_Mo_laysBy_9 (fun x3 => fr_pc (pc' := 12) rfl ?_)
      refine fp_iconst (v := (1 : Int32)) dd_Mo_laysBy_12 (by decide) (fr_pc (pc' := 13) rfl ?_)
      refine fp_isub dd_Mo_laysBy_13 (fr_pc (pc' := 14) rfl ?_)
      refine fr_nistore_n (i := 2) dd_Mo_laysBy_14 rfl (Nat.le_of_ble_eq_true rfl) (fun _ => c1_i rfl) (fun y4 => fr_to (pc' := 15) (env' := [some (sf_rv p0), some (.int b1), some (.int y4), none, none]) (stk' := []) rfl rfl rfl ?_)
      refine fr_to (pc' := 15) (env' := [some (sf_rv p0), some (.int b1), some (.int y4), none, none]) (stk' := []) rfl rfl rfl ?_
      refine fr_bnd (l1 := (fun (e26 : (Unit)) => sf_p 116 [some (sf_rv p0), some (.int b1), none, none, none] [])) (fr_loop (Lb := (fun (b5 : (Int32)) => sf_p 15 [some (sf_rv p0), some (.int b1), some (.int b5), none, none] [])) (fun b5 => ?_) _ _) (fun e26 => ?_)
      · refine fp_iload_n (i := 2) (x := b5) dd_Mo_laysBy_15 rfl rfl (fr_pc (pc' := 16) rfl ?_)
        refine fr_if_lt (tgt := 116) dd_Mo_laysBy_16 rfl (fun _ => ?_) (fun _ => ?_)
        · refine fr_wk [true, true, false, false, false] ?_
          exact fr_ret rfl
        · refine fr_pc (pc' := 19) rfl ?_
          refine fp_iload_n (i := 2) (x := b5) dd_Mo_laysBy_19 rfl rfl (fr_pc (pc' := 20) rfl ?_)
          refine fp_aload_n (i := 0) (r := p0) dd_Mo_laysBy_20 rfl rfl (fr_pc (pc' := 21) rfl ?_)
          refine fr_gI cl_11 30 (by decide) rfl sw_1102 dd_Mo_laysBy_21 (fun x7 => fr_pc (pc' := 24) rfl ?_)
          refine fp_iconst (v := (1 : Int32)) dd_Mo_laysBy_24 (by decide) (fr_pc (pc' := 25) rfl ?_)
          refine fp_isub dd_Mo_laysBy_25 (fr_pc (pc' := 26) rfl ?_)
          refine fr_bnd (l1 := (fun (v9 : (Int32)) => sf_p 36 [some (sf_rv p0), some (.int b1), some (.int b5), none, none] [.int v9])) ?_ (fun v9 => ?_)
          · refine fr_icmp_ne (tgt := 33) dd_Mo_laysBy_26 rfl (fun _ => ?_) (fun _ => ?_)
            · refine fr_pc (pc' := 29) rfl ?_
              refine fp_iconst (v := (0 : Int32)) dd_Mo_laysBy_29 (by decide) (fr_pc (pc' := 30) rfl ?_)
              refine fp_goto (tgt := 36) dd_Mo_laysBy_30 rfl ?_
              exact fr_ret rfl
            · refine fp_ldcw (v := (100000000 : Int32)) dd_Mo_laysBy_33 sw_1535 (fr_pc (pc' := 36) rfl ?_)
              exact fr_ret rfl
          · refine fp_istore_n (i := 3) dd_Mo_laysBy_36 rfl (Nat.le_of_ble_eq_true rfl) (fun _ => c1_i rfl) (fr_to (pc' := 37) (env' := [some (sf_rv p0), some (.int b1), some (.int b5), some (.int v9), none]) (stk' := []) rfl rfl rfl ?_)
            refine fp_iload_n (i := 2) (x := b5) dd_Mo_laysBy_37 rfl rfl (fr_pc (pc' := 38) rfl ?_)
            refine fp_iconst (v := (1 : Int32)) dd_Mo_laysBy_38 (by decide) (fr_pc (pc' := 39) rfl ?_)
            refine fp_iadd dd_Mo_laysBy_39 (fr_pc (pc' := 40) rfl ?_)
            refine fr_nistore (i := 4) dd_Mo_laysBy_40 (Nat.le_of_ble_eq_true rfl) (fun _ => c1_i rfl) (fun y10 => fr_to (pc' := 42) (env' := [some (sf_rv p0), some (.int b1), some (.int b5), some (.int v9), some (.int y10)]) (stk' := []) rfl rfl rfl ?_)
            refine fr_to (pc' := 42) (env' := [some (sf_rv p0), some (.int b1), some (.int b5), some (.int v9), some (.int y10)]) (stk' := []) rfl rfl rfl ?_
            refine fr_bnd (l1 := (fun (e22 : (Int32)) => sf_p 92 [some (sf_rv p0), some (.int b1), some (.int b5), some (.int e22), none] [])) (fr_loop (Lb := (fun (b11 : (Int32 × Int32)) => sf_p 42 [some (sf_rv p0), some (.int b1), some (.int b5), some (.int b11.1), some (.int b11.2)] [])) (fun b11 => ?_) _ _) (fun e22 => ?_)
            · refine fp_iload (i := 4) (x := b11.2) dd_Mo_laysBy_42 rfl (fr_pc (pc' := 44) rfl ?_)
              refine fp_aload_n (i := 0) (r := p0) dd_Mo_laysBy_44 rfl rfl (fr_pc (pc' := 45) rfl ?_)
              refine fr_gI cl_11 30 (by decide) rfl sw_1102 dd_Mo_laysBy_45 (fun x12 => fr_pc (pc' := 48) rfl ?_)
              refine fr_icmp_ge (tgt := 92) dd_Mo_laysBy_48 rfl (fun _ => ?_) (fun _ => ?_)
              · refine fr_wk [true, true, true, true, false] ?_
                exact fr_ret rfl
              · refine fr_pc (pc' := 51) rfl ?_
                refine fp_iload_n (i := 1) (x := b1) dd_Mo_laysBy_51 rfl rfl (fr_pc (pc' := 52) rfl ?_)
                refine fr_if_le (tgt := 92) dd_Mo_laysBy_52 rfl (fun _ => ?_) (fun _ => ?_)
                · refine fr_wk [true, true, true, true, false] ?_
                  exact fr_ret rfl
                · refine fr_pc (pc' := 55) rfl ?_
                  refine fp_iload_n (i := 3) (x := b11.1) dd_Mo_laysBy_55 rfl rfl (fr_pc (pc' := 56) rfl ?_)
                  refine fp_aload_n (i := 0) (r := p0) dd_Mo_laysBy_56 rfl rfl (fr_pc (pc' := 57) rfl ?_)
                  refine fr_gR cl_11 31 (by decide) rfl sw_1103 dd_Mo_laysBy_57 (fun x15 => fr_pc (pc' := 60) rfl ?_)
                  refine fp_iload_n (i := 2) (x := b5) dd_Mo_laysBy_60 rfl rfl (fr_pc (pc' := 61) rfl ?_)
                  refine fp_iload (i := 4) (x := b11.2) dd_Mo_laysBy_61 rfl (fr_pc (pc' := 63) rfl ?_)
                  refine fr_callS (stk := [sf_rv x15, .int b11.1]) (ok_Mo_pairAt b5 b11.2) mt_Mo_pairAt rfl rfl sw_1291 sw_1292 (by decide) (Nat.le_of_ble_eq_true rfl) dd_Mo_laysBy_63 (fun x16 => fr_to (pc' := 66) (env' := [some (sf_rv p0), some (.int b1), some (.int b5), some (.int b11.1), some (.int b11.2)]) (stk' := [.int x16, sf_rv x15, .int b11.1]) rfl rfl rfl ?_)
                  refine fr_aI0 dd_Mo_laysBy_66 (fun x17 => fr_pc (pc' := 67) rfl ?_)
                  refine fp_aload_n (i := 0) (r := p0) dd_Mo_laysBy_67 rfl rfl (fr_pc (pc' := 68) rfl ?_)
                  refine fr_gR cl_11 33 (by decide) rfl sw_1105 dd_Mo_laysBy_68 (fun x18 => fr_pc (pc' := 71) rfl ?_)
                  refine fp_bipush (v := (8 : Int32)) dd_Mo_laysBy_71 (by decide) (fr_pc (pc' := 73) rfl ?_)
                  refine fp_iload_n (i := 1) (x := b1) dd_Mo_laysBy_73 rfl rfl (fr_pc (pc' := 74) rfl ?_)
                  refine fp_iconst (v := (1 : Int32)) dd_Mo_laysBy_74 (by decide) (fr_pc (pc' := 75) rfl ?_)
                  refine fp_isub dd_Mo_laysBy_75 (fr_pc (pc' := 76) rfl ?_)
                  refine fp_imul dd_Mo_laysBy_76 (fr_pc (pc' := 77) rfl ?_)
                  refine fp_iload (i := 4) (x := b11.2) dd_Mo_laysBy_77 rfl (fr_pc (pc' := 79) rfl ?_)
                  refine fp_iadd dd_Mo_laysBy_79 (fr_pc (pc' := 80) rfl ?_)
                  refine fr_aI0 dd_Mo_laysBy_80 (fun x19 => fr_pc (pc' := 81) rfl ?_)
                  refine fp_iadd dd_Mo_laysBy_81 (fr_pc (pc' := 82) rfl ?_)
                  refine fr_callS (stk := []) (ok_Mo_lesser b11.1 (x17 + x19)) mt_Mo_lesser rfl rfl sw_1540 sw_1541 (by decide) (Nat.le_of_ble_eq_true rfl) dd_Mo_laysBy_82 (fun x20 => fr_to (pc' := 85) (env' := [some (sf_rv p0), some (.int b1), some (.int b5), some (.int b11.1), some (.int b11.2)]) (stk' := [.int x20]) rfl rfl rfl ?_)
                  refine fp_istore_n (i := 3) dd_Mo_laysBy_85 rfl (Nat.le_of_ble_eq_true rfl) (fun _ => c1_i rfl) (fr_to (pc' := 86) (env' := [some (sf_rv p0), some (.int b1), some (.int b5), some (.int x20), some (.int b11.2)]) (stk' := []) rfl rfl rfl ?_)
                  refine fr_niinc (i := 4) (x := b11.2) (w := (1 : Int32)) dd_Mo_laysBy_86 rfl (by decide) (Nat.le_of_ble_eq_true rfl) (fun _ => c1_i rfl) (fun y21 => fr_to (pc' := 89) (env' := [some (sf_rv p0), some (.int b1), some (.int b5), some (.int x20), some (.int y21)]) (stk' := []) rfl rfl rfl ?_)
                  refine fp_goto (tgt := 42) dd_Mo_laysBy_89 rfl ?_
                  exact fr_ret rfl
            · refine fp_aload_n (i := 0) (r := p0) dd_Mo_laysBy_92 rfl rfl (fr_pc (pc' := 93) rfl ?_)
              refine fr_gR cl_11 33 (by decide) rfl sw_1105 dd_Mo_laysBy_93 (fun x23 => fr_pc (pc' := 96) rfl ?_)
              refine fp_bipush (v := (8 : Int32)) dd_Mo_laysBy_96 (by decide) (fr_pc (pc' := 98) rfl ?_)
              refine fp_iload_n (i := 1) (x := b1) dd_Mo_laysBy_98 rfl rfl (fr_pc (pc' := 99) rfl ?_)
              refine fp_imul dd_Mo_laysBy_99 (fr_pc (pc' := 100) rfl ?_)
              refine fp_iload_n (i := 2) (x := b5) dd_Mo_laysBy_100 rfl rfl (fr_pc (pc' := 101) rfl ?_)
              refine fp_iadd dd_Mo_laysBy_101 (fr_pc (pc' := 102) rfl ?_)
              refine fp_ldcw (v := (100000000 : Int32)) dd_Mo_laysBy_102 sw_1535 (fr_pc (pc' := 105) rfl ?_)
              refine fp_iload_n (i := 3) (x := e22) dd_Mo_laysBy_105 rfl rfl (fr_pc (pc' := 106) rfl ?_)
              refine fr_callS (stk := [.int (((8 : Int32) * b1) + b5), sf_rv x23]) (ok_Mo_lesser (100000000 : Int32) e22) mt_Mo_lesser rfl rfl sw_1540 sw_1541 (by decide) (Nat.le_of_ble_eq_true rfl) dd_Mo_laysBy_106 (fun x24 => fr_to (pc' := 109) (env' := [some (sf_rv p0), some (.int b1), some (.int b5), some (.int e22), none]) (stk' := [.int x24, .int (((8 : Int32) * b1) + b5), sf_rv x23]) rfl rfl rfl ?_)
              refine fr_sI0 dd_Mo_laysBy_109 (fr_pc (pc' := 110) rfl ?_)
              refine fr_niinc (i := 2) (x := b5) (w := (-1 : Int32)) dd_Mo_laysBy_110 rfl (by decide) (Nat.le_of_ble_eq_true rfl) (fun _ => c1_i rfl) (fun y25 => fr_to (pc' := 113) (env' := [some (sf_rv p0), some (.int b1), some (.int y25), some (.int e22), none]) (stk' := []) rfl rfl rfl ?_)
              refine fp_goto (tgt := 15) dd_Mo_laysBy_113 rfl ?_
              refine fr_wk [true, true, true, false, false] ?_
              exact fr_ret rfl
      · refine fr_niinc (i := 1) (x := b1) (w := (1 : Int32)) dd_Mo_laysBy_116 rfl (by decide) (Nat.le_of_ble_eq_true rfl) (fun _ => c1_r rfl) (fun y27 => fr_to (pc' := 119) (env' := [some (sf_rv p0), some (.int y27), none, none, none]) (stk' := []) rfl rfl rfl ?_)
        refine fp_goto (tgt := 2) dd_Mo_laysBy_119 rfl ?_
        exact fr_ret rfl
  · exact fr_vret rfl rfl dd_Mo_laysBy_122
theorem mt_Mo_byAtMost : sf_Mt ({ cls := "SplitFaresModel", name := "byAtMost", desc := "(IIII)I" } : Jvm.MethodName) prog_13_method_92_code 5 (some .int) 4 := ⟨sw_1558, sw_12, ⟨by decide, by decide, by decide +kernel⟩, by decide⟩
theorem dd_Mo_byAtMost_0 : decode prog_13_method_92_code 0 = .ok (.aload_n 0, 1) := by decide +kernel
theorem dd_Mo_byAtMost_1 : decode prog_13_method_92_code 1 = .ok (.iload_n 1, 1) := by decide +kernel
theorem dd_Mo_byAtMost_2 : decode prog_13_method_92_code 2 = .ok (.iload_n 2, 1) := by decide +kernel
theorem dd_Mo_byAtMost_3 : decode prog_13_method_92_code 3 = .ok (.iload_n 3, 1) := by decide +kernel
theorem dd_Mo_byAtMost_4 : decode prog_13_method_92_code 4 = .ok (.invokevirtual 376, 3) := by decide +kernel
theorem dd_Mo_byAtMost_7 : decode prog_13_method_92_code 7 = .ok (.ifCond .eq 14, 3) := by decide +kernel
theorem dd_Mo_byAtMost_10 : decode prog_13_method_92_code 10 = .ok (.iload 4, 2) := by decide +kernel
theorem dd_Mo_byAtMost_12 : decode prog_13_method_92_code 12 = .ok (.iconst 1, 1) := by decide +kernel
theorem dd_Mo_byAtMost_13 : decode prog_13_method_92_code 13 = .ok (.bipush 7, 2) := by decide +kernel
theorem dd_Mo_byAtMost_15 : decode prog_13_method_92_code 15 = .ok (.invokestatic 18, 3) := by decide +kernel
theorem dd_Mo_byAtMost_18 : decode prog_13_method_92_code 18 = .ok (.ifCond .ne 5, 3) := by decide +kernel
theorem dd_Mo_byAtMost_23 : decode prog_13_method_92_code 23 = .ok (.aload_n 0, 1) := by decide +kernel
theorem dd_Mo_byAtMost_24 : decode prog_13_method_92_code 24 = .ok (.iload_n 1, 1) := by decide +kernel
theorem dd_Mo_byAtMost_25 : decode prog_13_method_92_code 25 = .ok (.iload_n 2, 1) := by decide +kernel
theorem dd_Mo_byAtMost_26 : decode prog_13_method_92_code 26 = .ok (.iload_n 3, 1) := by decide +kernel
theorem dd_Mo_byAtMost_27 : decode prog_13_method_92_code 27 = .ok (.invokevirtual 379, 3) := by decide +kernel
theorem dd_Mo_byAtMost_30 : decode prog_13_method_92_code 30 = .ok (.pop, 1) := by decide +kernel
theorem dd_Mo_byAtMost_31 : decode prog_13_method_92_code 31 = .ok (.aload_n 0, 1) := by decide +kernel
theorem dd_Mo_byAtMost_32 : decode prog_13_method_92_code 32 = .ok (.invokevirtual 385, 3) := by decide +kernel
theorem dd_Mo_byAtMost_35 : decode prog_13_method_92_code 35 = .ok (.aload_n 0, 1) := by decide +kernel
theorem dd_Mo_byAtMost_36 : decode prog_13_method_92_code 36 = .ok (.getfield 79, 3) := by decide +kernel
theorem dd_Mo_byAtMost_39 : decode prog_13_method_92_code 39 = .ok (.bipush 8, 2) := by decide +kernel
theorem dd_Mo_byAtMost_41 : decode prog_13_method_92_code 41 = .ok (.iload 4, 2) := by decide +kernel
theorem dd_Mo_byAtMost_43 : decode prog_13_method_92_code 43 = .ok (.imul, 1) := by decide +kernel
theorem dd_Mo_byAtMost_44 : decode prog_13_method_92_code 44 = .ok (.iaload, 1) := by decide +kernel
theorem dd_Mo_byAtMost_45 : decode prog_13_method_92_code 45 = .ok (.ldc_w 348, 3) := by decide +kernel
theorem dd_Mo_byAtMost_48 : decode prog_13_method_92_code 48 = .ok (.if_icmp .lt 7, 3) := by decide +kernel
theorem dd_Mo_byAtMost_51 : decode prog_13_method_92_code 51 = .ok (.iconst (-1), 1) := by decide +kernel
theorem dd_Mo_byAtMost_52 : decode prog_13_method_92_code 52 = .ok (.goto 13, 3) := by decide +kernel
theorem dd_Mo_byAtMost_55 : decode prog_13_method_92_code 55 = .ok (.aload_n 0, 1) := by decide +kernel
theorem dd_Mo_byAtMost_56 : decode prog_13_method_92_code 56 = .ok (.getfield 79, 3) := by decide +kernel
theorem dd_Mo_byAtMost_59 : decode prog_13_method_92_code 59 = .ok (.bipush 8, 2) := by decide +kernel
theorem dd_Mo_byAtMost_61 : decode prog_13_method_92_code 61 = .ok (.iload 4, 2) := by decide +kernel
theorem dd_Mo_byAtMost_63 : decode prog_13_method_92_code 63 = .ok (.imul, 1) := by decide +kernel
theorem dd_Mo_byAtMost_64 : decode prog_13_method_92_code 64 = .ok (.iaload, 1) := by decide +kernel
theorem dd_Mo_byAtMost_65 : decode prog_13_method_92_code 65 = .ok (.ireturn, 1) := by decide +kernel
theorem dd_Mo_byAtMost_21 : decode prog_13_method_92_code 21 = .ok (.iconst (-1), 1) := by decide +kernel
theorem dd_Mo_byAtMost_22 : decode prog_13_method_92_code 22 = .ok (.ireturn, 1) := by decide +kernel
def jx_Mo_byAtMost (p0 : Option Nat) (p1 : Int32) (p2 : Int32) (p3 : Int32) (p4 : Int32) : sf_M (Int32) :=
  sf_bnd (sf_rc 11 p0 (jx_Mo_canAsk p0 p1 p2 p3)) fun x1 =>
  if x1 = 0 then (
  sf_ret (-1 : Int32)
  ) else (
  sf_bnd (jx_Mo_lies p4 (1 : Int32) (7 : Int32)) fun x3 =>
  if x3 = 0 then (
  sf_ret (-1 : Int32)
  ) else (
  sf_bnd (sf_rc 11 p0 (jx_Mo_cheapestOf p0 p1 p2 p3)) fun x5 =>
  sf_bnd (sf_rc 11 p0 (jx_Mo_laysBy p0)) fun _ =>
  sf_bnd (sf_gR 11 33 p0) fun x7 =>
  sf_bnd (sf_aI 0 x7 ((8 : Int32) * p4)) fun x8 =>
  if x8 < (100000000 : Int32) then (
  sf_bnd (sf_gR 11 33 p0) fun x10 =>
  sf_bnd (sf_aI 0 x10 ((8 : Int32) * p4)) fun x11 =>
  sf_ret x11
  ) else (
  sf_ret (-1 : Int32)
  )
  )
  )
set_option maxRecDepth 20000 in
set_option maxHeartbeats 4000000 in
theorem ok_Mo_byAtMost (p0 : Option Nat) (p1 : Int32) (p2 : Int32) (p3 : Int32) (p4 : Int32) : sf_Ok ({ cls := "SplitFaresModel", name := "byAtMost", desc := "(IIII)I" } : Jvm.MethodName) prog_13_method_92_code 5 (some .int) 209 [sf_rv p0, .int p1, .int p2, .int p3, .int p4] (jx_Mo_byAtMost p0 p1 p2 p3 p4) (fun r => some (.int r)) := by
  refine sf_Ok.of (env := [some (sf_rv p0), some (.int p1), some (.int p2), some (.int p3), some (.int p4)]) (plainFor_of_name (by decide)) [false, false, false, false, false] (fun G => ⟨pk_r, pk_i, pk_i, pk_i, pk_i, trivial⟩) (Nat.le_of_ble_eq_true rfl) rfl (fun X => ?_)
  unfold jx_Mo_byAtMost
  refine fp_aload_n (i := 0) (r := p0) dd_Mo_byAtMost_0 rfl rfl (fr_pc (pc' := 1) rfl ?_)
  refine fp_iload_n (i := 1) (x := p1) dd_Mo_byAtMost_1 rfl rfl (fr_pc (pc' := 2) rfl ?_)
  refine fp_iload_n (i := 2) (x := p2) dd_Mo_byAtMost_2 rfl rfl (fr_pc (pc' := 3) rfl ?_)
  refine fp_iload_n (i := 3) (x := p3) dd_Mo_byAtMost_3 rfl rfl (fr_pc (pc' := 4) rfl ?_)
  refine fr_callV (stk := []) (As := [.int p1, .int p2, .int p3]) cl_11 (ok_Mo_canAsk p0 p1 p2 p3) mt_Mo_canAsk rfl rfl sw_1512 sw_1514 sp_70 (by decide) (Nat.le_of_ble_eq_true rfl) dd_Mo_byAtMost_4 (fun x1 => fr_to (pc' := 7) (env' := [some (sf_rv p0), some (.int p1), some (.int p2), some (.int p3), some (.int p4)]) (stk' := [.int x1]) rfl rfl rfl ?_)
  refine fr_if_eq (tgt := 21) dd_Mo_byAtMost_7 rfl (fun _ => ?_) (fun _ => ?_)
  · refine fp_iconst (v := (-1 : Int32)) dd_Mo_byAtMost_21 (by decide) (fr_pc (pc' := 22) rfl ?_)
    exact fr_iret (v := (-1 : Int32)) rfl rfl dd_Mo_byAtMost_22
  · refine fr_pc (pc' := 10) rfl ?_
    refine fp_iload (i := 4) (x := p4) dd_Mo_byAtMost_10 rfl (fr_pc (pc' := 12) rfl ?_)
    refine fp_iconst (v := (1 : Int32)) dd_Mo_byAtMost_12 (by decide) (fr_pc (pc' := 13) rfl ?_)
    refine fp_bipush (v := (7 : Int32)) dd_Mo_byAtMost_13 (by decide) (fr_pc (pc' := 15) rfl ?_)
    refine fr_callS (stk := []) (ok_Mo_lies p4 (1 : Int32) (7 : Int32)) mt_Mo_lies rfl rfl sw_1237 sw_1238 (by decide) (Nat.le_of_ble_eq_true rfl) dd_Mo_byAtMost_15 (fun x3 => fr_to (pc' := 18) (env' := [some (sf_rv p0), some (.int p1), some (.int p2), some (.int p3), some (.int p4)]) (stk' := [.int x3]) rfl rfl rfl ?_)
    refine fr_if_ne (tgt := 23) dd_Mo_byAtMost_18 rfl (fun _ => ?_) (fun _ => ?_)
    · refine fr_pc (pc' := 21) rfl ?_
      refine fp_iconst (v := (-1 : Int32)) dd_Mo_byAtMost_21 (by decide) (fr_pc (pc' := 22) rfl ?_)
      exact fr_iret (v := (-1 : Int32)) rfl rfl dd_Mo_byAtMost_22
    · refine fp_aload_n (i := 0) (r := p0) dd_Mo_byAtMost_23 rfl rfl (fr_pc (pc' := 24) rfl ?_)
      refine fp_iload_n (i := 1) (x := p1) dd_Mo_byAtMost_24 rfl rfl (fr_pc (pc' := 25) rfl ?_)
      refine fp_iload_n (i := 2) (x := p2) dd_Mo_byAtMost_25 rfl rfl (fr_pc (pc' := 26) rfl ?_)
      refine fp_iload_n (i := 3) (x := p3) dd_Mo_byAtMost_26 rfl rfl (fr_pc (pc' := 27) rfl ?_)
      refine fr_callV (stk := []) (As := [.int p1, .int p2, .int p3]) cl_11 (ok_Mo_cheapestOf p0 p1 p2 p3) mt_Mo_cheapestOf rfl rfl sw_1523 sw_1525 sp_72 (by decide) (Nat.le_of_ble_eq_true rfl) dd_Mo_byAtMost_27 (fun x5 => fr_to (pc' := 30) (env' := [some (sf_rv p0), some (.int p1), some (.int p2), some (.int p3), some (.int p4)]) (stk' := [.int x5]) rfl rfl rfl ?_)
      refine fp_pop_i dd_Mo_byAtMost_30 (fr_pc (pc' := 31) rfl ?_)
      refine fp_aload_n (i := 0) (r := p0) dd_Mo_byAtMost_31 rfl rfl (fr_pc (pc' := 32) rfl ?_)
      refine fr_callV (stk := []) (As := []) cl_11 (ok_Mo_laysBy p0) mt_Mo_laysBy rfl rfl sw_1559 sw_1561 sp_79 (by decide) (Nat.le_of_ble_eq_true rfl) dd_Mo_byAtMost_32 (fun u6 => fr_to (pc' := 35) (env' := [some (sf_rv p0), some (.int p1), some (.int p2), some (.int p3), some (.int p4)]) (stk' := []) rfl rfl rfl ?_)
      refine fp_aload_n (i := 0) (r := p0) dd_Mo_byAtMost_35 rfl rfl (fr_pc (pc' := 36) rfl ?_)
      refine fr_gR cl_11 33 (by decide) rfl sw_1105 dd_Mo_byAtMost_36 (fun x7 => fr_pc (pc' := 39) rfl ?_)
      refine fp_bipush (v := (8 : Int32)) dd_Mo_byAtMost_39 (by decide) (fr_pc (pc' := 41) rfl ?_)
      refine fp_iload (i := 4) (x := p4) dd_Mo_byAtMost_41 rfl (fr_pc (pc' := 43) rfl ?_)
      refine fp_imul dd_Mo_byAtMost_43 (fr_pc (pc' := 44) rfl ?_)
      refine fr_aI0 dd_Mo_byAtMost_44 (fun x8 => fr_pc (pc' := 45) rfl ?_)
      refine fp_ldcw (v := (100000000 : Int32)) dd_Mo_byAtMost_45 sw_1535 (fr_pc (pc' := 48) rfl ?_)
      refine fr_icmp_lt (tgt := 55) dd_Mo_byAtMost_48 rfl (fun _ => ?_) (fun _ => ?_)
      · refine fp_aload_n (i := 0) (r := p0) dd_Mo_byAtMost_55 rfl rfl (fr_pc (pc' := 56) rfl ?_)
        refine fr_gR cl_11 33 (by decide) rfl sw_1105 dd_Mo_byAtMost_56 (fun x10 => fr_pc (pc' := 59) rfl ?_)
        refine fp_bipush (v := (8 : Int32)) dd_Mo_byAtMost_59 (by decide) (fr_pc (pc' := 61) rfl ?_)
        refine fp_iload (i := 4) (x := p4) dd_Mo_byAtMost_61 rfl (fr_pc (pc' := 63) rfl ?_)
        refine fp_imul dd_Mo_byAtMost_63 (fr_pc (pc' := 64) rfl ?_)
        refine fr_aI0 dd_Mo_byAtMost_64 (fun x11 => fr_pc (pc' := 65) rfl ?_)
        exact fr_iret (v := x11) rfl rfl dd_Mo_byAtMost_65
      · refine fr_pc (pc' := 51) rfl ?_
        refine fp_iconst (v := (-1 : Int32)) dd_Mo_byAtMost_51 (by decide) (fr_pc (pc' := 52) rfl ?_)
        refine fp_goto (tgt := 65) dd_Mo_byAtMost_52 rfl ?_
        exact fr_iret (v := (-1 : Int32)) rfl rfl dd_Mo_byAtMost_65
theorem mt_Mo_fewest : sf_Mt ({ cls := "SplitFaresModel", name := "fewest", desc := "(III)I" } : Jvm.MethodName) prog_13_method_93_code 5 (some .int) 3 := ⟨sw_1566, sw_12, ⟨by decide, by decide, by decide +kernel⟩, by decide⟩
theorem dd_Mo_fewest_0 : decode prog_13_method_93_code 0 = .ok (.aload_n 0, 1) := by decide +kernel
theorem dd_Mo_fewest_1 : decode prog_13_method_93_code 1 = .ok (.iload_n 1, 1) := by decide +kernel
theorem dd_Mo_fewest_2 : decode prog_13_method_93_code 2 = .ok (.iload_n 2, 1) := by decide +kernel
theorem dd_Mo_fewest_3 : decode prog_13_method_93_code 3 = .ok (.iload_n 3, 1) := by decide +kernel
theorem dd_Mo_fewest_4 : decode prog_13_method_93_code 4 = .ok (.invokevirtual 376, 3) := by decide +kernel
theorem dd_Mo_fewest_7 : decode prog_13_method_93_code 7 = .ok (.ifCond .ne 5, 3) := by decide +kernel
theorem dd_Mo_fewest_10 : decode prog_13_method_93_code 10 = .ok (.iconst (-1), 1) := by decide +kernel
theorem dd_Mo_fewest_11 : decode prog_13_method_93_code 11 = .ok (.ireturn, 1) := by decide +kernel
theorem dd_Mo_fewest_12 : decode prog_13_method_93_code 12 = .ok (.aload_n 0, 1) := by decide +kernel
theorem dd_Mo_fewest_13 : decode prog_13_method_93_code 13 = .ok (.iload_n 1, 1) := by decide +kernel
theorem dd_Mo_fewest_14 : decode prog_13_method_93_code 14 = .ok (.iload_n 2, 1) := by decide +kernel
theorem dd_Mo_fewest_15 : decode prog_13_method_93_code 15 = .ok (.iload_n 3, 1) := by decide +kernel
theorem dd_Mo_fewest_16 : decode prog_13_method_93_code 16 = .ok (.invokevirtual 379, 3) := by decide +kernel
theorem dd_Mo_fewest_19 : decode prog_13_method_93_code 19 = .ok (.pop, 1) := by decide +kernel
theorem dd_Mo_fewest_20 : decode prog_13_method_93_code 20 = .ok (.aload_n 0, 1) := by decide +kernel
theorem dd_Mo_fewest_21 : decode prog_13_method_93_code 21 = .ok (.invokevirtual 385, 3) := by decide +kernel
theorem dd_Mo_fewest_24 : decode prog_13_method_93_code 24 = .ok (.iconst 1, 1) := by decide +kernel
theorem dd_Mo_fewest_25 : decode prog_13_method_93_code 25 = .ok (.istore 4, 2) := by decide +kernel
theorem dd_Mo_fewest_27 : decode prog_13_method_93_code 27 = .ok (.iload 4, 2) := by decide +kernel
theorem dd_Mo_fewest_29 : decode prog_13_method_93_code 29 = .ok (.bipush 8, 2) := by decide +kernel
theorem dd_Mo_fewest_31 : decode prog_13_method_93_code 31 = .ok (.if_icmp .ge 28, 3) := by decide +kernel
theorem dd_Mo_fewest_34 : decode prog_13_method_93_code 34 = .ok (.aload_n 0, 1) := by decide +kernel
theorem dd_Mo_fewest_35 : decode prog_13_method_93_code 35 = .ok (.getfield 79, 3) := by decide +kernel
theorem dd_Mo_fewest_38 : decode prog_13_method_93_code 38 = .ok (.bipush 8, 2) := by decide +kernel
theorem dd_Mo_fewest_40 : decode prog_13_method_93_code 40 = .ok (.iload 4, 2) := by decide +kernel
theorem dd_Mo_fewest_42 : decode prog_13_method_93_code 42 = .ok (.imul, 1) := by decide +kernel
theorem dd_Mo_fewest_43 : decode prog_13_method_93_code 43 = .ok (.iaload, 1) := by decide +kernel
theorem dd_Mo_fewest_44 : decode prog_13_method_93_code 44 = .ok (.ldc_w 348, 3) := by decide +kernel
theorem dd_Mo_fewest_47 : decode prog_13_method_93_code 47 = .ok (.if_icmp .ge 6, 3) := by decide +kernel
theorem dd_Mo_fewest_50 : decode prog_13_method_93_code 50 = .ok (.iload 4, 2) := by decide +kernel
theorem dd_Mo_fewest_52 : decode prog_13_method_93_code 52 = .ok (.ireturn, 1) := by decide +kernel
theorem dd_Mo_fewest_53 : decode prog_13_method_93_code 53 = .ok (.iinc 4 1, 3) := by decide +kernel
theorem dd_Mo_fewest_56 : decode prog_13_method_93_code 56 = .ok (.goto (-29), 3) := by decide +kernel
theorem dd_Mo_fewest_59 : decode prog_13_method_93_code 59 = .ok (.iconst (-1), 1) := by decide +kernel
theorem dd_Mo_fewest_60 : decode prog_13_method_93_code 60 = .ok (.ireturn, 1) := by decide +kernel
def jx_Mo_fewest (p0 : Option Nat) (p1 : Int32) (p2 : Int32) (p3 : Int32) : sf_M (Int32) :=
  sf_bnd (sf_rc 11 p0 (jx_Mo_canAsk p0 p1 p2 p3)) fun x1 =>
  if x1 = 0 then (
  sf_ret (-1 : Int32)
  ) else (
  sf_bnd (sf_rc 11 p0 (jx_Mo_cheapestOf p0 p1 p2 p3)) fun x3 =>
  sf_bnd (sf_rc 11 p0 (jx_Mo_laysBy p0)) fun _ =>
  sf_or (α := Int32) (β := (Unit)) (sf_loop (β := (Int32)) (γ := (Int32 ⊕ (Unit))) (fun b5 =>
  if (8 : Int32) ≤ b5 then (
  sf_ret (.inr (.inr ()))
  ) else (
  sf_bnd (sf_gR 11 33 p0) fun x7 =>
  sf_bnd (sf_aI 0 x7 ((8 : Int32) * b5)) fun x8 =>
  if (100000000 : Int32) ≤ x8 then (
  sf_bnd (sf_ret (b5 + (1 : Int32))) fun y10 =>
  sf_ret (.inl y10)
  ) else (
  sf_ret (.inr (.inl b5))
  )
  )
  ) sf_fuel (1 : Int32)) (fun e11 =>
  sf_ret (-1 : Int32)
  )
  )
set_option maxRecDepth 20000 in
set_option maxHeartbeats 4000000 in
theorem ok_Mo_fewest (p0 : Option Nat) (p1 : Int32) (p2 : Int32) (p3 : Int32) : sf_Ok ({ cls := "SplitFaresModel", name := "fewest", desc := "(III)I" } : Jvm.MethodName) prog_13_method_93_code 5 (some .int) 209 [sf_rv p0, .int p1, .int p2, .int p3] (jx_Mo_fewest p0 p1 p2 p3) (fun r => some (.int r)) := by
  refine sf_Ok.of (env := [some (sf_rv p0), some (.int p1), some (.int p2), some (.int p3), none]) (plainFor_of_name (by decide)) [false, false, false, false] (fun G => ⟨pk_r, pk_i, pk_i, pk_i, trivial⟩) (Nat.le_of_ble_eq_true rfl) rfl (fun X => ?_)
  unfold jx_Mo_fewest
  refine fp_aload_n (i := 0) (r := p0) dd_Mo_fewest_0 rfl rfl (fr_pc (pc' := 1) rfl ?_)
  refine fp_iload_n (i := 1) (x := p1) dd_Mo_fewest_1 rfl rfl (fr_pc (pc' := 2) rfl ?_)
  refine fp_iload_n (i := 2) (x := p2) dd_Mo_fewest_2 rfl rfl (fr_pc (pc' := 3) rfl ?_)
  refine fp_iload_n (i := 3) (x := p3) dd_Mo_fewest_3 rfl rfl (fr_pc (pc' := 4) rfl ?_)
  refine fr_callV (stk := []) (As := [.int p1, .int p2, .int p3]) cl_11 (ok_Mo_canAsk p0 p1 p2 p3) mt_Mo_canAsk rfl rfl sw_1512 sw_1514 sp_70 (by decide) (Nat.le_of_ble_eq_true rfl) dd_Mo_fewest_4 (fun x1 => fr_to (pc' := 7) (env' := [some (sf_rv p0), some (.int p1), some (.int p2), some (.int p3), none]) (stk' := [.int x1]) rfl rfl rfl ?_)
  refine fr_if_ne (tgt := 12) dd_Mo_fewest_7 rfl (fun _ => ?_) (fun _ => ?_)
  · refine fr_pc (pc' := 10) rfl ?_
    refine fp_iconst (v := (-1 : Int32)) dd_Mo_fewest_10 (by decide) (fr_pc (pc' := 11) rfl ?_)
    exact fr_iret (v := (-1 : Int32)) rfl rfl dd_Mo_fewest_11
  · refine fp_aload_n (i := 0) (r := p0) dd_Mo_fewest_12 rfl rfl (fr_pc (pc' := 13) rfl ?_)
    refine fp_iload_n (i := 1) (x := p1) dd_Mo_fewest_13 rfl rfl (fr_pc (pc' := 14) rfl ?_)
    refine fp_iload_n (i := 2) (x := p2) dd_Mo_fewest_14 rfl rfl (fr_pc (pc' := 15) rfl ?_)
    refine fp_iload_n (i := 3) (x := p3) dd_Mo_fewest_15 rfl rfl (fr_pc (pc' := 16) rfl ?_)
    refine fr_callV (stk := []) (As := [.int p1, .int p2, .int p3]) cl_11 (ok_Mo_cheapestOf p0 p1 p2 p3) mt_Mo_cheapestOf rfl rfl sw_1523 sw_1525 sp_72 (by decide) (Nat.le_of_ble_eq_true rfl) dd_Mo_fewest_16 (fun x3 => fr_to (pc' := 19) (env' := [some (sf_rv p0), some (.int p1), some (.int p2), some (.int p3), none]) (stk' := [.int x3]) rfl rfl rfl ?_)
    refine fp_pop_i dd_Mo_fewest_19 (fr_pc (pc' := 20) rfl ?_)
    refine fp_aload_n (i := 0) (r := p0) dd_Mo_fewest_20 rfl rfl (fr_pc (pc' := 21) rfl ?_)
    refine fr_callV (stk := []) (As := []) cl_11 (ok_Mo_laysBy p0) mt_Mo_laysBy rfl rfl sw_1559 sw_1561 sp_79 (by decide) (Nat.le_of_ble_eq_true rfl) dd_Mo_fewest_21 (fun u4 => fr_to (pc' := 24) (env' := [some (sf_rv p0), some (.int p1), some (.int p2), some (.int p3), none]) (stk' := []) rfl rfl rfl ?_)
    refine fp_iconst (v := (1 : Int32)) dd_Mo_fewest_24 (by decide) (fr_pc (pc' := 25) rfl ?_)
    refine fp_istore (i := 4) dd_Mo_fewest_25 (Nat.le_of_ble_eq_true rfl) (fun _ => c1_i rfl) (fr_to (pc' := 27) (env' := [some (sf_rv p0), some (.int p1), some (.int p2), some (.int p3), some (.int (1 : Int32))]) (stk' := []) rfl rfl rfl ?_)
    refine fr_to (pc' := 27) (env' := [some (sf_rv p0), some (.int p1), some (.int p2), some (.int p3), some (.int (1 : Int32))]) (stk' := []) rfl rfl rfl ?_
    refine fr_or (l1 := (fun (e11 : (Unit)) => sf_p 59 [some (sf_rv p0), some (.int p1), some (.int p2), some (.int p3), none] [])) (fr_loop (Lb := (fun (b5 : (Int32)) => sf_p 27 [some (sf_rv p0), some (.int p1), some (.int p2), some (.int p3), some (.int b5)] [])) (fun b5 => ?_) _ _) (fun e11 => ?_)
    · refine fp_iload (i := 4) (x := b5) dd_Mo_fewest_27 rfl (fr_pc (pc' := 29) rfl ?_)
      refine fp_bipush (v := (8 : Int32)) dd_Mo_fewest_29 (by decide) (fr_pc (pc' := 31) rfl ?_)
      refine fr_icmp_ge (tgt := 59) dd_Mo_fewest_31 rfl (fun _ => ?_) (fun _ => ?_)
      · refine fr_wk [true, true, true, true, false] ?_
        exact fr_ret rfl
      · refine fr_pc (pc' := 34) rfl ?_
        refine fp_aload_n (i := 0) (r := p0) dd_Mo_fewest_34 rfl rfl (fr_pc (pc' := 35) rfl ?_)
        refine fr_gR cl_11 33 (by decide) rfl sw_1105 dd_Mo_fewest_35 (fun x7 => fr_pc (pc' := 38) rfl ?_)
        refine fp_bipush (v := (8 : Int32)) dd_Mo_fewest_38 (by decide) (fr_pc (pc' := 40) rfl ?_)
        refine fp_iload (i := 4) (x := b5) dd_Mo_fewest_40 rfl (fr_pc (pc' := 42) rfl ?_)
        refine fp_imul dd_Mo_fewest_42 (fr_pc (pc' := 43) rfl ?_)
        refine fr_aI0 dd_Mo_fewest_43 (fun x8 => fr_pc (pc' := 44) rfl ?_)
        refine fp_ldcw (v := (100000000 : Int32)) dd_Mo_fewest_44 sw_1535 (fr_pc (pc' := 47) rfl ?_)
        refine fr_icmp_ge (tgt := 53) dd_Mo_fewest_47 rfl (fun _ => ?_) (fun _ => ?_)
        · refine fr_niinc (i := 4) (x := b5) (w := (1 : Int32)) dd_Mo_fewest_53 rfl (by decide) (Nat.le_of_ble_eq_true rfl) (fun _ => c1_i rfl) (fun y10 => fr_to (pc' := 56) (env' := [some (sf_rv p0), some (.int p1), some (.int p2), some (.int p3), some (.int y10)]) (stk' := []) rfl rfl rfl ?_)
          refine fp_goto (tgt := 27) dd_Mo_fewest_56 rfl ?_
          exact fr_ret rfl
        · refine fr_pc (pc' := 50) rfl ?_
          refine fp_iload (i := 4) (x := b5) dd_Mo_fewest_50 rfl (fr_pc (pc' := 52) rfl ?_)
          exact fr_iret (v := b5) rfl rfl dd_Mo_fewest_52
    · refine fp_iconst (v := (-1 : Int32)) dd_Mo_fewest_59 (by decide) (fr_pc (pc' := 60) rfl ?_)
      exact fr_iret (v := (-1 : Int32)) rfl rfl dd_Mo_fewest_60
theorem mt_Mo_ways : sf_Mt ({ cls := "SplitFaresModel", name := "ways", desc := "(III)I" } : Jvm.MethodName) prog_13_method_94_code 6 (some .int) 3 := ⟨sw_1570, sw_12, ⟨by decide, by decide, by decide +kernel⟩, by decide⟩
theorem dd_Mo_ways_0 : decode prog_13_method_94_code 0 = .ok (.aload_n 0, 1) := by decide +kernel
theorem dd_Mo_ways_1 : decode prog_13_method_94_code 1 = .ok (.iload_n 1, 1) := by decide +kernel
theorem dd_Mo_ways_2 : decode prog_13_method_94_code 2 = .ok (.invokevirtual 132, 3) := by decide +kernel
theorem dd_Mo_ways_5 : decode prog_13_method_94_code 5 = .ok (.ifCond .eq 11, 3) := by decide +kernel
theorem dd_Mo_ways_8 : decode prog_13_method_94_code 8 = .ok (.iload_n 2, 1) := by decide +kernel
theorem dd_Mo_ways_9 : decode prog_13_method_94_code 9 = .ok (.iload_n 3, 1) := by decide +kernel
theorem dd_Mo_ways_10 : decode prog_13_method_94_code 10 = .ok (.invokestatic 139, 3) := by decide +kernel
theorem dd_Mo_ways_13 : decode prog_13_method_94_code 13 = .ok (.ifCond .ne 5, 3) := by decide +kernel
theorem dd_Mo_ways_18 : decode prog_13_method_94_code 18 = .ok (.aload_n 0, 1) := by decide +kernel
theorem dd_Mo_ways_19 : decode prog_13_method_94_code 19 = .ok (.iload_n 1, 1) := by decide +kernel
theorem dd_Mo_ways_20 : decode prog_13_method_94_code 20 = .ok (.iload_n 2, 1) := by decide +kernel
theorem dd_Mo_ways_21 : decode prog_13_method_94_code 21 = .ok (.iload_n 3, 1) := by decide +kernel
theorem dd_Mo_ways_22 : decode prog_13_method_94_code 22 = .ok (.invokevirtual 361, 3) := by decide +kernel
theorem dd_Mo_ways_25 : decode prog_13_method_94_code 25 = .ok (.ifCond .ne 5, 3) := by decide +kernel
theorem dd_Mo_ways_28 : decode prog_13_method_94_code 28 = .ok (.iconst 0, 1) := by decide +kernel
theorem dd_Mo_ways_29 : decode prog_13_method_94_code 29 = .ok (.ireturn, 1) := by decide +kernel
theorem dd_Mo_ways_30 : decode prog_13_method_94_code 30 = .ok (.aload_n 0, 1) := by decide +kernel
theorem dd_Mo_ways_31 : decode prog_13_method_94_code 31 = .ok (.iload_n 1, 1) := by decide +kernel
theorem dd_Mo_ways_32 : decode prog_13_method_94_code 32 = .ok (.iload_n 2, 1) := by decide +kernel
theorem dd_Mo_ways_33 : decode prog_13_method_94_code 33 = .ok (.iload_n 3, 1) := by decide +kernel
theorem dd_Mo_ways_34 : decode prog_13_method_94_code 34 = .ok (.invokevirtual 379, 3) := by decide +kernel
theorem dd_Mo_ways_37 : decode prog_13_method_94_code 37 = .ok (.pop, 1) := by decide +kernel
theorem dd_Mo_ways_38 : decode prog_13_method_94_code 38 = .ok (.aload_n 0, 1) := by decide +kernel
theorem dd_Mo_ways_39 : decode prog_13_method_94_code 39 = .ok (.getfield 345, 3) := by decide +kernel
theorem dd_Mo_ways_42 : decode prog_13_method_94_code 42 = .ok (.iconst 1, 1) := by decide +kernel
theorem dd_Mo_ways_43 : decode prog_13_method_94_code 43 = .ok (.isub, 1) := by decide +kernel
theorem dd_Mo_ways_44 : decode prog_13_method_94_code 44 = .ok (.istore 4, 2) := by decide +kernel
theorem dd_Mo_ways_46 : decode prog_13_method_94_code 46 = .ok (.iload 4, 2) := by decide +kernel
theorem dd_Mo_ways_48 : decode prog_13_method_94_code 48 = .ok (.ifCond .lt 92, 3) := by decide +kernel
theorem dd_Mo_ways_51 : decode prog_13_method_94_code 51 = .ok (.aload_n 0, 1) := by decide +kernel
theorem dd_Mo_ways_52 : decode prog_13_method_94_code 52 = .ok (.getfield 82, 3) := by decide +kernel
theorem dd_Mo_ways_55 : decode prog_13_method_94_code 55 = .ok (.iload 4, 2) := by decide +kernel
theorem dd_Mo_ways_57 : decode prog_13_method_94_code 57 = .ok (.iload 4, 2) := by decide +kernel
theorem dd_Mo_ways_59 : decode prog_13_method_94_code 59 = .ok (.aload_n 0, 1) := by decide +kernel
theorem dd_Mo_ways_60 : decode prog_13_method_94_code 60 = .ok (.getfield 345, 3) := by decide +kernel
theorem dd_Mo_ways_63 : decode prog_13_method_94_code 63 = .ok (.iconst 1, 1) := by decide +kernel
theorem dd_Mo_ways_64 : decode prog_13_method_94_code 64 = .ok (.isub, 1) := by decide +kernel
theorem dd_Mo_ways_65 : decode prog_13_method_94_code 65 = .ok (.if_icmp .ne 7, 3) := by decide +kernel
theorem dd_Mo_ways_68 : decode prog_13_method_94_code 68 = .ok (.iconst 1, 1) := by decide +kernel
theorem dd_Mo_ways_69 : decode prog_13_method_94_code 69 = .ok (.goto 4, 3) := by decide +kernel
theorem dd_Mo_ways_72 : decode prog_13_method_94_code 72 = .ok (.iconst 0, 1) := by decide +kernel
theorem dd_Mo_ways_73 : decode prog_13_method_94_code 73 = .ok (.iastore, 1) := by decide +kernel
theorem dd_Mo_ways_74 : decode prog_13_method_94_code 74 = .ok (.iload 4, 2) := by decide +kernel
theorem dd_Mo_ways_76 : decode prog_13_method_94_code 76 = .ok (.iconst 1, 1) := by decide +kernel
theorem dd_Mo_ways_77 : decode prog_13_method_94_code 77 = .ok (.iadd, 1) := by decide +kernel
theorem dd_Mo_ways_78 : decode prog_13_method_94_code 78 = .ok (.istore 5, 2) := by decide +kernel
theorem dd_Mo_ways_80 : decode prog_13_method_94_code 80 = .ok (.iload 5, 2) := by decide +kernel
theorem dd_Mo_ways_82 : decode prog_13_method_94_code 82 = .ok (.aload_n 0, 1) := by decide +kernel
theorem dd_Mo_ways_83 : decode prog_13_method_94_code 83 = .ok (.getfield 345, 3) := by decide +kernel
theorem dd_Mo_ways_86 : decode prog_13_method_94_code 86 = .ok (.if_icmp .ge 48, 3) := by decide +kernel
theorem dd_Mo_ways_89 : decode prog_13_method_94_code 89 = .ok (.aload_n 0, 1) := by decide +kernel
theorem dd_Mo_ways_90 : decode prog_13_method_94_code 90 = .ok (.getfield 82, 3) := by decide +kernel
theorem dd_Mo_ways_93 : decode prog_13_method_94_code 93 = .ok (.iload 4, 2) := by decide +kernel
theorem dd_Mo_ways_95 : decode prog_13_method_94_code 95 = .ok (.dup2, 1) := by decide +kernel
theorem dd_Mo_ways_96 : decode prog_13_method_94_code 96 = .ok (.iaload, 1) := by decide +kernel
theorem dd_Mo_ways_97 : decode prog_13_method_94_code 97 = .ok (.aload_n 0, 1) := by decide +kernel
theorem dd_Mo_ways_98 : decode prog_13_method_94_code 98 = .ok (.getfield 73, 3) := by decide +kernel
theorem dd_Mo_ways_101 : decode prog_13_method_94_code 101 = .ok (.iload 4, 2) := by decide +kernel
theorem dd_Mo_ways_103 : decode prog_13_method_94_code 103 = .ok (.iload 5, 2) := by decide +kernel
theorem dd_Mo_ways_105 : decode prog_13_method_94_code 105 = .ok (.invokestatic 135, 3) := by decide +kernel
theorem dd_Mo_ways_108 : decode prog_13_method_94_code 108 = .ok (.iaload, 1) := by decide +kernel
theorem dd_Mo_ways_109 : decode prog_13_method_94_code 109 = .ok (.ldc_w 348, 3) := by decide +kernel
theorem dd_Mo_ways_112 : decode prog_13_method_94_code 112 = .ok (.if_icmp .ge 13, 3) := by decide +kernel
theorem dd_Mo_ways_115 : decode prog_13_method_94_code 115 = .ok (.aload_n 0, 1) := by decide +kernel
theorem dd_Mo_ways_116 : decode prog_13_method_94_code 116 = .ok (.getfield 82, 3) := by decide +kernel
theorem dd_Mo_ways_119 : decode prog_13_method_94_code 119 = .ok (.iload 5, 2) := by decide +kernel
theorem dd_Mo_ways_121 : decode prog_13_method_94_code 121 = .ok (.iaload, 1) := by decide +kernel
theorem dd_Mo_ways_122 : decode prog_13_method_94_code 122 = .ok (.goto 4, 3) := by decide +kernel
theorem dd_Mo_ways_125 : decode prog_13_method_94_code 125 = .ok (.iconst 0, 1) := by decide +kernel
theorem dd_Mo_ways_126 : decode prog_13_method_94_code 126 = .ok (.iadd, 1) := by decide +kernel
theorem dd_Mo_ways_127 : decode prog_13_method_94_code 127 = .ok (.iastore, 1) := by decide +kernel
theorem dd_Mo_ways_128 : decode prog_13_method_94_code 128 = .ok (.iinc 5 1, 3) := by decide +kernel
theorem dd_Mo_ways_131 : decode prog_13_method_94_code 131 = .ok (.goto (-51), 3) := by decide +kernel
theorem dd_Mo_ways_134 : decode prog_13_method_94_code 134 = .ok (.iinc 4 (-1), 3) := by decide +kernel
theorem dd_Mo_ways_137 : decode prog_13_method_94_code 137 = .ok (.goto (-91), 3) := by decide +kernel
theorem dd_Mo_ways_140 : decode prog_13_method_94_code 140 = .ok (.aload_n 0, 1) := by decide +kernel
theorem dd_Mo_ways_141 : decode prog_13_method_94_code 141 = .ok (.getfield 82, 3) := by decide +kernel
theorem dd_Mo_ways_144 : decode prog_13_method_94_code 144 = .ok (.iconst 0, 1) := by decide +kernel
theorem dd_Mo_ways_145 : decode prog_13_method_94_code 145 = .ok (.iaload, 1) := by decide +kernel
theorem dd_Mo_ways_146 : decode prog_13_method_94_code 146 = .ok (.ireturn, 1) := by decide +kernel
theorem dd_Mo_ways_16 : decode prog_13_method_94_code 16 = .ok (.iconst (-1), 1) := by decide +kernel
theorem dd_Mo_ways_17 : decode prog_13_method_94_code 17 = .ok (.ireturn, 1) := by decide +kernel
def jx_Mo_ways (p0 : Option Nat) (p1 : Int32) (p2 : Int32) (p3 : Int32) : sf_M (Int32) :=
  sf_bnd (sf_rc 11 p0 (jx_Mo_isTrain p0 p1)) fun x1 =>
  if x1 = 0 then (
  sf_ret (-1 : Int32)
  ) else (
  sf_bnd (jx_Mo_areTwo p2 p3) fun x3 =>
  if x3 = 0 then (
  sf_ret (-1 : Int32)
  ) else (
  sf_bnd (sf_rc 11 p0 (jx_Mo_goes p0 p1 p2 p3)) fun x5 =>
  if x5 = 0 then (
  sf_ret (0 : Int32)
  ) else (
  sf_bnd (sf_rc 11 p0 (jx_Mo_cheapestOf p0 p1 p2 p3)) fun x7 =>
  sf_bnd (sf_gI 11 30 p0) fun x8 =>
  sf_bnd (sf_ret ((x8 - (1 : Int32)))) fun y9 =>
  sf_bnd (sf_loop (β := (Int32)) (γ := (Unit)) (fun b10 =>
  if b10 < 0 then (
  sf_ret (.inr ())
  ) else (
  sf_bnd (sf_gR 11 34 p0) fun x12 =>
  sf_bnd (sf_gI 11 30 p0) fun x13 =>
  sf_bnd (α := (Int32)) (
  if b10 = (x13 - (1 : Int32)) then (
  sf_ret (1 : Int32)
  ) else (
  sf_ret (0 : Int32)
  )
  ) (fun v15 =>
  sf_bnd (sf_sI 0 x12 b10 v15) fun _ =>
  sf_bnd (sf_ret ((b10 + (1 : Int32)))) fun y16 =>
  sf_bnd (sf_loop (β := (Int32)) (γ := (Unit)) (fun b17 =>
  sf_bnd (sf_gI 11 30 p0) fun x18 =>
  if x18 ≤ b17 then (
  sf_ret (.inr ())
  ) else (
  sf_bnd (sf_gR 11 34 p0) fun x20 =>
  sf_bnd (sf_aI 0 x20 b10) fun x21 =>
  sf_bnd (sf_gR 11 31 p0) fun x22 =>
  sf_bnd (jx_Mo_pairAt b10 b17) fun x23 =>
  sf_bnd (sf_aI 0 x22 x23) fun x24 =>
  sf_bnd (α := (Int32)) (
  if (100000000 : Int32) ≤ x24 then (
  sf_ret (0 : Int32)
  ) else (
  sf_bnd (sf_gR 11 34 p0) fun x26 =>
  sf_bnd (sf_aI 0 x26 b17) fun x27 =>
  sf_ret x27
  )
  ) (fun v28 =>
  sf_bnd (sf_sI 0 x20 b10 (x21 + v28)) fun _ =>
  sf_bnd (sf_ret (b17 + (1 : Int32))) fun y29 =>
  sf_ret (.inl y29)
  )
  )
  ) sf_fuel y16) (fun e30 =>
  sf_bnd (sf_ret (b10 + (-1 : Int32))) fun y31 =>
  sf_ret (.inl y31)
  )
  )
  )
  ) sf_fuel y9) (fun e32 =>
  sf_bnd (sf_gR 11 34 p0) fun x33 =>
  sf_bnd (sf_aI 0 x33 (0 : Int32)) fun x34 =>
  sf_ret x34
  )
  )
  )
  )
set_option maxRecDepth 20000 in
set_option maxHeartbeats 4000000 in
theorem ok_Mo_ways (p0 : Option Nat) (p1 : Int32) (p2 : Int32) (p3 : Int32) : sf_Ok ({ cls := "SplitFaresModel", name := "ways", desc := "(III)I" } : Jvm.MethodName) prog_13_method_94_code 6 (some .int) 209 [sf_rv p0, .int p1, .int p2, .int p3] (jx_Mo_ways p0 p1 p2 p3) (fun r => some (.int r)) := by
  refine sf_Ok.of (env := [some (sf_rv p0), some (.int p1), some (.int p2), some (.int p3), none, none]) (plainFor_of_name (by decide)) [false, false, false, false] (fun G => ⟨pk_r, pk_i, pk_i, pk_i, trivial⟩) (Nat.le_of_ble_eq_true rfl) rfl (fun X => ?_)
  unfold jx_Mo_ways
  refine fp_aload_n (i := 0) (r := p0) dd_Mo_ways_0 rfl rfl (fr_pc (pc' := 1) rfl ?_)
  refine fp_iload_n (i := 1) (x := p1) dd_Mo_ways_1 rfl rfl (fr_pc (pc' := 2) rfl ?_)
  refine fr_callV (stk := []) (As := [.int p1]) cl_11 (ok_Mo_isTrain p0 p1) mt_Mo_isTrain rfl rfl sw_1274 sw_1276 sp_31 (by decide) (Nat.le_of_ble_eq_true rfl) dd_Mo_ways_2 (fun x1 => fr_to (pc' := 5) (env' := [some (sf_rv p0), some (.int p1), some (.int p2), some (.int p3), none, none]) (stk' := [.int x1]) rfl rfl rfl ?_)
  refine fr_if_eq (tgt := 16) dd_Mo_ways_5 rfl (fun _ => ?_) (fun _ => ?_)
  · refine fp_iconst (v := (-1 : Int32)) dd_Mo_ways_16 (by decide) (fr_pc (pc' := 17) rfl ?_)
    exact fr_iret (v := (-1 : Int32)) rfl rfl dd_Mo_ways_17
  · refine fr_pc (pc' := 8) rfl ?_
    refine fp_iload_n (i := 2) (x := p2) dd_Mo_ways_8 rfl rfl (fr_pc (pc' := 9) rfl ?_)
    refine fp_iload_n (i := 3) (x := p3) dd_Mo_ways_9 rfl rfl (fr_pc (pc' := 10) rfl ?_)
    refine fr_callS (stk := []) (ok_Mo_areTwo p2 p3) mt_Mo_areTwo rfl rfl sw_1282 sw_1283 (by decide) (Nat.le_of_ble_eq_true rfl) dd_Mo_ways_10 (fun x3 => fr_to (pc' := 13) (env' := [some (sf_rv p0), some (.int p1), some (.int p2), some (.int p3), none, none]) (stk' := [.int x3]) rfl rfl rfl ?_)
    refine fr_if_ne (tgt := 18) dd_Mo_ways_13 rfl (fun _ => ?_) (fun _ => ?_)
    · refine fr_pc (pc' := 16) rfl ?_
      refine fp_iconst (v := (-1 : Int32)) dd_Mo_ways_16 (by decide) (fr_pc (pc' := 17) rfl ?_)
      exact fr_iret (v := (-1 : Int32)) rfl rfl dd_Mo_ways_17
    · refine fp_aload_n (i := 0) (r := p0) dd_Mo_ways_18 rfl rfl (fr_pc (pc' := 19) rfl ?_)
      refine fp_iload_n (i := 1) (x := p1) dd_Mo_ways_19 rfl rfl (fr_pc (pc' := 20) rfl ?_)
      refine fp_iload_n (i := 2) (x := p2) dd_Mo_ways_20 rfl rfl (fr_pc (pc' := 21) rfl ?_)
      refine fp_iload_n (i := 3) (x := p3) dd_Mo_ways_21 rfl rfl (fr_pc (pc' := 22) rfl ?_)
      refine fr_callV (stk := []) (As := [.int p1, .int p2, .int p3]) cl_11 (ok_Mo_goes p0 p1 p2 p3) mt_Mo_goes rfl rfl sw_1516 sw_1518 sp_71 (by decide) (Nat.le_of_ble_eq_true rfl) dd_Mo_ways_22 (fun x5 => fr_to (pc' := 25) (env' := [some (sf_rv p0), some (.int p1), some (.int p2), some (.int p3), none, none]) (stk' := [.int x5]) rfl rfl rfl ?_)
      refine fr_if_ne (tgt := 30) dd_Mo_ways_25 rfl (fun _ => ?_) (fun _ => ?_)
      · refine fr_pc (pc' := 28) rfl ?_
        refine fp_iconst (v := (0 : Int32)) dd_Mo_ways_28 (by decide) (fr_pc (pc' := 29) rfl ?_)
        exact fr_iret (v := (0 : Int32)) rfl rfl dd_Mo_ways_29
      · refine fp_aload_n (i := 0) (r := p0) dd_Mo_ways_30 rfl rfl (fr_pc (pc' := 31) rfl ?_)
        refine fp_iload_n (i := 1) (x := p1) dd_Mo_ways_31 rfl rfl (fr_pc (pc' := 32) rfl ?_)
        refine fp_iload_n (i := 2) (x := p2) dd_Mo_ways_32 rfl rfl (fr_pc (pc' := 33) rfl ?_)
        refine fp_iload_n (i := 3) (x := p3) dd_Mo_ways_33 rfl rfl (fr_pc (pc' := 34) rfl ?_)
        refine fr_callV (stk := []) (As := [.int p1, .int p2, .int p3]) cl_11 (ok_Mo_cheapestOf p0 p1 p2 p3) mt_Mo_cheapestOf rfl rfl sw_1523 sw_1525 sp_72 (by decide) (Nat.le_of_ble_eq_true rfl) dd_Mo_ways_34 (fun x7 => fr_to (pc' := 37) (env' := [some (sf_rv p0), some (.int p1), some (.int p2), some (.int p3), none, none]) (stk' := [.int x7]) rfl rfl rfl ?_)
        refine fp_pop_i dd_Mo_ways_37 (fr_pc (pc' := 38) rfl ?_)
        refine fp_aload_n (i := 0) (r := p0) dd_Mo_ways_38 rfl rfl (fr_pc (pc' := 39) rfl ?_)
        refine fr_gI cl_11 30 (by decide) rfl sw_1102 dd_Mo_ways_39 (fun x8 => fr_pc (pc' := 42) rfl ?_)
        refine fp_iconst (v := (1 : Int32)) dd_Mo_ways_42 (by decide) (fr_pc (pc' := 43) rfl ?_)
        refine fp_isub dd_Mo_ways_43 (fr_pc (pc' := 44) rfl ?_)
        refine fr_nistore (i := 4) dd_Mo_ways_44 (Nat.le_of_ble_eq_true rfl) (fun _ => c1_i rfl) (fun y9 => fr_to (pc' := 46) (env' := [some (sf_rv p0), some (.int p1), some (.int p2), some (.int p3), some (.int y9), none]) (stk' := []) rfl rfl rfl ?_)
        refine fr_to (pc' := 46) (env' := [some (sf_rv p0), some (.int p1), some (.int p2), some (.int p3), some (.int y9), none]) (stk' := []) rfl rfl rfl ?_
        refine fr_bnd (l1 := (fun (e32 : (Unit)) => sf_p 140 [some (sf_rv p0), some (.int p1), some (.int p2), some (.int p3), none, none] [])) (fr_loop (Lb := (fun (b10 : (Int32)) => sf_p 46 [some (sf_rv p0), some (.int p1), some (.int p2), some (.int p3), some (.int b10), none] [])) (fun b10 => ?_) _ _) (fun e32 => ?_)
        · refine fp_iload (i := 4) (x := b10) dd_Mo_ways_46 rfl (fr_pc (pc' := 48) rfl ?_)
          refine fr_if_lt (tgt := 140) dd_Mo_ways_48 rfl (fun _ => ?_) (fun _ => ?_)
          · refine fr_wk [true, true, true, true, false, false] ?_
            exact fr_ret rfl
          · refine fr_pc (pc' := 51) rfl ?_
            refine fp_aload_n (i := 0) (r := p0) dd_Mo_ways_51 rfl rfl (fr_pc (pc' := 52) rfl ?_)
            refine fr_gR cl_11 34 (by decide) rfl sw_1106 dd_Mo_ways_52 (fun x12 => fr_pc (pc' := 55) rfl ?_)
            refine fp_iload (i := 4) (x := b10) dd_Mo_ways_55 rfl (fr_pc (pc' := 57) rfl ?_)
            refine fp_iload (i := 4) (x := b10) dd_Mo_ways_57 rfl (fr_pc (pc' := 59) rfl ?_)
            refine fp_aload_n (i := 0) (r := p0) dd_Mo_ways_59 rfl rfl (fr_pc (pc' := 60) rfl ?_)
            refine fr_gI cl_11 30 (by decide) rfl sw_1102 dd_Mo_ways_60 (fun x13 => fr_pc (pc' := 63) rfl ?_)
            refine fp_iconst (v := (1 : Int32)) dd_Mo_ways_63 (by decide) (fr_pc (pc' := 64) rfl ?_)
            refine fp_isub dd_Mo_ways_64 (fr_pc (pc' := 65) rfl ?_)
            refine fr_bnd (l1 := (fun (v15 : (Int32)) => sf_p 73 [some (sf_rv p0), some (.int p1), some (.int p2), some (.int p3), some (.int b10), none] [.int v15, .int b10, sf_rv x12])) ?_ (fun v15 => ?_)
            · refine fr_icmp_ne (tgt := 72) dd_Mo_ways_65 rfl (fun _ => ?_) (fun _ => ?_)
              · refine fr_pc (pc' := 68) rfl ?_
                refine fp_iconst (v := (1 : Int32)) dd_Mo_ways_68 (by decide) (fr_pc (pc' := 69) rfl ?_)
                refine fp_goto (tgt := 73) dd_Mo_ways_69 rfl ?_
                exact fr_ret rfl
              · refine fp_iconst (v := (0 : Int32)) dd_Mo_ways_72 (by decide) (fr_pc (pc' := 73) rfl ?_)
                exact fr_ret rfl
            · refine fr_sI0 dd_Mo_ways_73 (fr_pc (pc' := 74) rfl ?_)
              refine fp_iload (i := 4) (x := b10) dd_Mo_ways_74 rfl (fr_pc (pc' := 76) rfl ?_)
              refine fp_iconst (v := (1 : Int32)) dd_Mo_ways_76 (by decide) (fr_pc (pc' := 77) rfl ?_)
              refine fp_iadd dd_Mo_ways_77 (fr_pc (pc' := 78) rfl ?_)
              refine fr_nistore (i := 5) dd_Mo_ways_78 (Nat.le_of_ble_eq_true rfl) (fun _ => c1_i rfl) (fun y16 => fr_to (pc' := 80) (env' := [some (sf_rv p0), some (.int p1), some (.int p2), some (.int p3), some (.int b10), some (.int y16)]) (stk' := []) rfl rfl rfl ?_)
              refine fr_to (pc' := 80) (env' := [some (sf_rv p0), some (.int p1), some (.int p2), some (.int p3), some (.int b10), some (.int y16)]) (stk' := []) rfl rfl rfl ?_
              refine fr_bnd (l1 := (fun (e30 : (Unit)) => sf_p 134 [some (sf_rv p0), some (.int p1), some (.int p2), some (.int p3), some (.int b10), none] [])) (fr_loop (Lb := (fun (b17 : (Int32)) => sf_p 80 [some (sf_rv p0), some (.int p1), some (.int p2), some (.int p3), some (.int b10), some (.int b17)] [])) (fun b17 => ?_) _ _) (fun e30 => ?_)
              · refine fp_iload (i := 5) (x := b17) dd_Mo_ways_80 rfl (fr_pc (pc' := 82) rfl ?_)
                refine fp_aload_n (i := 0) (r := p0) dd_Mo_ways_82 rfl rfl (fr_pc (pc' := 83) rfl ?_)
                refine fr_gI cl_11 30 (by decide) rfl sw_1102 dd_Mo_ways_83 (fun x18 => fr_pc (pc' := 86) rfl ?_)
                refine fr_icmp_ge (tgt := 134) dd_Mo_ways_86 rfl (fun _ => ?_) (fun _ => ?_)
                · refine fr_wk [true, true, true, true, true, false] ?_
                  exact fr_ret rfl
                · refine fr_pc (pc' := 89) rfl ?_
                  refine fp_aload_n (i := 0) (r := p0) dd_Mo_ways_89 rfl rfl (fr_pc (pc' := 90) rfl ?_)
                  refine fr_gR cl_11 34 (by decide) rfl sw_1106 dd_Mo_ways_90 (fun x20 => fr_pc (pc' := 93) rfl ?_)
                  refine fp_iload (i := 4) (x := b10) dd_Mo_ways_93 rfl (fr_pc (pc' := 95) rfl ?_)
                  refine fp_dup2 dd_Mo_ways_95 (fr_pc (pc' := 96) rfl ?_)
                  refine fr_aI0 dd_Mo_ways_96 (fun x21 => fr_pc (pc' := 97) rfl ?_)
                  refine fp_aload_n (i := 0) (r := p0) dd_Mo_ways_97 rfl rfl (fr_pc (pc' := 98) rfl ?_)
                  refine fr_gR cl_11 31 (by decide) rfl sw_1103 dd_Mo_ways_98 (fun x22 => fr_pc (pc' := 101) rfl ?_)
                  refine fp_iload (i := 4) (x := b10) dd_Mo_ways_101 rfl (fr_pc (pc' := 103) rfl ?_)
                  refine fp_iload (i := 5) (x := b17) dd_Mo_ways_103 rfl (fr_pc (pc' := 105) rfl ?_)
                  refine fr_callS (stk := [sf_rv x22, .int x21, .int b10, sf_rv x20]) (ok_Mo_pairAt b10 b17) mt_Mo_pairAt rfl rfl sw_1291 sw_1292 (by decide) (Nat.le_of_ble_eq_true rfl) dd_Mo_ways_105 (fun x23 => fr_to (pc' := 108) (env' := [some (sf_rv p0), some (.int p1), some (.int p2), some (.int p3), some (.int b10), some (.int b17)]) (stk' := [.int x23, sf_rv x22, .int x21, .int b10, sf_rv x20]) rfl rfl rfl ?_)
                  refine fr_aI0 dd_Mo_ways_108 (fun x24 => fr_pc (pc' := 109) rfl ?_)
                  refine fp_ldcw (v := (100000000 : Int32)) dd_Mo_ways_109 sw_1535 (fr_pc (pc' := 112) rfl ?_)
                  refine fr_bnd (l1 := (fun (v28 : (Int32)) => sf_p 126 [some (sf_rv p0), some (.int p1), some (.int p2), some (.int p3), some (.int b10), some (.int b17)] [.int v28, .int x21, .int b10, sf_rv x20])) ?_ (fun v28 => ?_)
                  · refine fr_icmp_ge (tgt := 125) dd_Mo_ways_112 rfl (fun _ => ?_) (fun _ => ?_)
                    · refine fp_iconst (v := (0 : Int32)) dd_Mo_ways_125 (by decide) (fr_pc (pc' := 126) rfl ?_)
                      exact fr_ret rfl
                    · refine fr_pc (pc' := 115) rfl ?_
                      refine fp_aload_n (i := 0) (r := p0) dd_Mo_ways_115 rfl rfl (fr_pc (pc' := 116) rfl ?_)
                      refine fr_gR cl_11 34 (by decide) rfl sw_1106 dd_Mo_ways_116 (fun x26 => fr_pc (pc' := 119) rfl ?_)
                      refine fp_iload (i := 5) (x := b17) dd_Mo_ways_119 rfl (fr_pc (pc' := 121) rfl ?_)
                      refine fr_aI0 dd_Mo_ways_121 (fun x27 => fr_pc (pc' := 122) rfl ?_)
                      refine fp_goto (tgt := 126) dd_Mo_ways_122 rfl ?_
                      exact fr_ret rfl
                  · refine fp_iadd dd_Mo_ways_126 (fr_pc (pc' := 127) rfl ?_)
                    refine fr_sI0 dd_Mo_ways_127 (fr_pc (pc' := 128) rfl ?_)
                    refine fr_niinc (i := 5) (x := b17) (w := (1 : Int32)) dd_Mo_ways_128 rfl (by decide) (Nat.le_of_ble_eq_true rfl) (fun _ => c1_i rfl) (fun y29 => fr_to (pc' := 131) (env' := [some (sf_rv p0), some (.int p1), some (.int p2), some (.int p3), some (.int b10), some (.int y29)]) (stk' := []) rfl rfl rfl ?_)
                    refine fp_goto (tgt := 80) dd_Mo_ways_131 rfl ?_
                    exact fr_ret rfl
              · refine fr_niinc (i := 4) (x := b10) (w := (-1 : Int32)) dd_Mo_ways_134 rfl (by decide) (Nat.le_of_ble_eq_true rfl) (fun _ => c1_i rfl) (fun y31 => fr_to (pc' := 137) (env' := [some (sf_rv p0), some (.int p1), some (.int p2), some (.int p3), some (.int y31), none]) (stk' := []) rfl rfl rfl ?_)
                refine fp_goto (tgt := 46) dd_Mo_ways_137 rfl ?_
                exact fr_ret rfl
        · refine fp_aload_n (i := 0) (r := p0) dd_Mo_ways_140 rfl rfl (fr_pc (pc' := 141) rfl ?_)
          refine fr_gR cl_11 34 (by decide) rfl sw_1106 dd_Mo_ways_141 (fun x33 => fr_pc (pc' := 144) rfl ?_)
          refine fp_iconst (v := (0 : Int32)) dd_Mo_ways_144 (by decide) (fr_pc (pc' := 145) rfl ?_)
          refine fr_aI0 dd_Mo_ways_145 (fun x34 => fr_pc (pc' := 146) rfl ?_)
          exact fr_iret (v := x34) rfl rfl dd_Mo_ways_146
theorem mt_Mo_laysBoth : sf_Mt ({ cls := "SplitFaresModel", name := "laysBoth", desc := "(II)V" } : Jvm.MethodName) prog_13_method_95_code 6 none 2 := ⟨sw_1578, sw_12, ⟨by decide, by decide, by decide +kernel⟩, by decide⟩
theorem dd_Mo_laysBoth_0 : decode prog_13_method_95_code 0 = .ok (.iconst 0, 1) := by decide +kernel
theorem dd_Mo_laysBoth_1 : decode prog_13_method_95_code 1 = .ok (.istore_n 3, 1) := by decide +kernel
theorem dd_Mo_laysBoth_2 : decode prog_13_method_95_code 2 = .ok (.iload_n 3, 1) := by decide +kernel
theorem dd_Mo_laysBoth_3 : decode prog_13_method_95_code 3 = .ok (.bipush 8, 2) := by decide +kernel
theorem dd_Mo_laysBoth_5 : decode prog_13_method_95_code 5 = .ok (.if_icmp .ge 153, 3) := by decide +kernel
theorem dd_Mo_laysBoth_8 : decode prog_13_method_95_code 8 = .ok (.iconst 0, 1) := by decide +kernel
theorem dd_Mo_laysBoth_9 : decode prog_13_method_95_code 9 = .ok (.istore 4, 2) := by decide +kernel
theorem dd_Mo_laysBoth_11 : decode prog_13_method_95_code 11 = .ok (.iload 4, 2) := by decide +kernel
theorem dd_Mo_laysBoth_13 : decode prog_13_method_95_code 13 = .ok (.bipush 8, 2) := by decide +kernel
theorem dd_Mo_laysBoth_15 : decode prog_13_method_95_code 15 = .ok (.if_icmp .ge 137, 3) := by decide +kernel
theorem dd_Mo_laysBoth_18 : decode prog_13_method_95_code 18 = .ok (.iload_n 3, 1) := by decide +kernel
theorem dd_Mo_laysBoth_19 : decode prog_13_method_95_code 19 = .ok (.iload 4, 2) := by decide +kernel
theorem dd_Mo_laysBoth_21 : decode prog_13_method_95_code 21 = .ok (.if_icmp .ne 6, 3) := by decide +kernel
theorem dd_Mo_laysBoth_24 : decode prog_13_method_95_code 24 = .ok (.goto 122, 3) := by decide +kernel
theorem dd_Mo_laysBoth_27 : decode prog_13_method_95_code 27 = .ok (.iload_n 3, 1) := by decide +kernel
theorem dd_Mo_laysBoth_28 : decode prog_13_method_95_code 28 = .ok (.iload 4, 2) := by decide +kernel
theorem dd_Mo_laysBoth_30 : decode prog_13_method_95_code 30 = .ok (.invokestatic 135, 3) := by decide +kernel
theorem dd_Mo_laysBoth_33 : decode prog_13_method_95_code 33 = .ok (.istore 5, 2) := by decide +kernel
theorem dd_Mo_laysBoth_35 : decode prog_13_method_95_code 35 = .ok (.aload_n 0, 1) := by decide +kernel
theorem dd_Mo_laysBoth_36 : decode prog_13_method_95_code 36 = .ok (.getfield 85, 3) := by decide +kernel
theorem dd_Mo_laysBoth_39 : decode prog_13_method_95_code 39 = .ok (.iload 5, 2) := by decide +kernel
theorem dd_Mo_laysBoth_41 : decode prog_13_method_95_code 41 = .ok (.aload_n 0, 1) := by decide +kernel
theorem dd_Mo_laysBoth_42 : decode prog_13_method_95_code 42 = .ok (.iload_n 1, 1) := by decide +kernel
theorem dd_Mo_laysBoth_43 : decode prog_13_method_95_code 43 = .ok (.iconst 0, 1) := by decide +kernel
theorem dd_Mo_laysBoth_44 : decode prog_13_method_95_code 44 = .ok (.iload_n 3, 1) := by decide +kernel
theorem dd_Mo_laysBoth_45 : decode prog_13_method_95_code 45 = .ok (.iload 4, 2) := by decide +kernel
theorem dd_Mo_laysBoth_47 : decode prog_13_method_95_code 47 = .ok (.invokevirtual 335, 3) := by decide +kernel
theorem dd_Mo_laysBoth_50 : decode prog_13_method_95_code 50 = .ok (.ifCond .eq 9, 3) := by decide +kernel
theorem dd_Mo_laysBoth_53 : decode prog_13_method_95_code 53 = .ok (.ldc_w 348, 3) := by decide +kernel
theorem dd_Mo_laysBoth_56 : decode prog_13_method_95_code 56 = .ok (.goto 11, 3) := by decide +kernel
theorem dd_Mo_laysBoth_59 : decode prog_13_method_95_code 59 = .ok (.aload_n 0, 1) := by decide +kernel
theorem dd_Mo_laysBoth_60 : decode prog_13_method_95_code 60 = .ok (.iconst 0, 1) := by decide +kernel
theorem dd_Mo_laysBoth_61 : decode prog_13_method_95_code 61 = .ok (.iload_n 3, 1) := by decide +kernel
theorem dd_Mo_laysBoth_62 : decode prog_13_method_95_code 62 = .ok (.iload 4, 2) := by decide +kernel
theorem dd_Mo_laysBoth_64 : decode prog_13_method_95_code 64 = .ok (.invokevirtual 339, 3) := by decide +kernel
theorem dd_Mo_laysBoth_67 : decode prog_13_method_95_code 67 = .ok (.iastore, 1) := by decide +kernel
theorem dd_Mo_laysBoth_68 : decode prog_13_method_95_code 68 = .ok (.aload_n 0, 1) := by decide +kernel
theorem dd_Mo_laysBoth_69 : decode prog_13_method_95_code 69 = .ok (.getfield 88, 3) := by decide +kernel
theorem dd_Mo_laysBoth_72 : decode prog_13_method_95_code 72 = .ok (.iload 5, 2) := by decide +kernel
theorem dd_Mo_laysBoth_74 : decode prog_13_method_95_code 74 = .ok (.aload_n 0, 1) := by decide +kernel
theorem dd_Mo_laysBoth_75 : decode prog_13_method_95_code 75 = .ok (.iload_n 2, 1) := by decide +kernel
theorem dd_Mo_laysBoth_76 : decode prog_13_method_95_code 76 = .ok (.iconst 0, 1) := by decide +kernel
theorem dd_Mo_laysBoth_77 : decode prog_13_method_95_code 77 = .ok (.iload_n 3, 1) := by decide +kernel
theorem dd_Mo_laysBoth_78 : decode prog_13_method_95_code 78 = .ok (.iload 4, 2) := by decide +kernel
theorem dd_Mo_laysBoth_80 : decode prog_13_method_95_code 80 = .ok (.invokevirtual 335, 3) := by decide +kernel
theorem dd_Mo_laysBoth_83 : decode prog_13_method_95_code 83 = .ok (.ifCond .eq 9, 3) := by decide +kernel
theorem dd_Mo_laysBoth_86 : decode prog_13_method_95_code 86 = .ok (.ldc_w 348, 3) := by decide +kernel
theorem dd_Mo_laysBoth_89 : decode prog_13_method_95_code 89 = .ok (.goto 11, 3) := by decide +kernel
theorem dd_Mo_laysBoth_92 : decode prog_13_method_95_code 92 = .ok (.aload_n 0, 1) := by decide +kernel
theorem dd_Mo_laysBoth_93 : decode prog_13_method_95_code 93 = .ok (.iconst 0, 1) := by decide +kernel
theorem dd_Mo_laysBoth_94 : decode prog_13_method_95_code 94 = .ok (.iload_n 3, 1) := by decide +kernel
theorem dd_Mo_laysBoth_95 : decode prog_13_method_95_code 95 = .ok (.iload 4, 2) := by decide +kernel
theorem dd_Mo_laysBoth_97 : decode prog_13_method_95_code 97 = .ok (.invokevirtual 339, 3) := by decide +kernel
theorem dd_Mo_laysBoth_100 : decode prog_13_method_95_code 100 = .ok (.iastore, 1) := by decide +kernel
theorem dd_Mo_laysBoth_101 : decode prog_13_method_95_code 101 = .ok (.aload_n 0, 1) := by decide +kernel
theorem dd_Mo_laysBoth_102 : decode prog_13_method_95_code 102 = .ok (.getfield 91, 3) := by decide +kernel
theorem dd_Mo_laysBoth_105 : decode prog_13_method_95_code 105 = .ok (.iload 5, 2) := by decide +kernel
theorem dd_Mo_laysBoth_107 : decode prog_13_method_95_code 107 = .ok (.aload_n 0, 1) := by decide +kernel
theorem dd_Mo_laysBoth_108 : decode prog_13_method_95_code 108 = .ok (.iload_n 1, 1) := by decide +kernel
theorem dd_Mo_laysBoth_109 : decode prog_13_method_95_code 109 = .ok (.iconst 1, 1) := by decide +kernel
theorem dd_Mo_laysBoth_110 : decode prog_13_method_95_code 110 = .ok (.iload_n 3, 1) := by decide +kernel
theorem dd_Mo_laysBoth_111 : decode prog_13_method_95_code 111 = .ok (.iload 4, 2) := by decide +kernel
theorem dd_Mo_laysBoth_113 : decode prog_13_method_95_code 113 = .ok (.invokevirtual 335, 3) := by decide +kernel
theorem dd_Mo_laysBoth_116 : decode prog_13_method_95_code 116 = .ok (.ifCond .ne 15, 3) := by decide +kernel
theorem dd_Mo_laysBoth_119 : decode prog_13_method_95_code 119 = .ok (.aload_n 0, 1) := by decide +kernel
theorem dd_Mo_laysBoth_120 : decode prog_13_method_95_code 120 = .ok (.iload_n 2, 1) := by decide +kernel
theorem dd_Mo_laysBoth_121 : decode prog_13_method_95_code 121 = .ok (.iconst 1, 1) := by decide +kernel
theorem dd_Mo_laysBoth_122 : decode prog_13_method_95_code 122 = .ok (.iload_n 3, 1) := by decide +kernel
theorem dd_Mo_laysBoth_123 : decode prog_13_method_95_code 123 = .ok (.iload 4, 2) := by decide +kernel
theorem dd_Mo_laysBoth_125 : decode prog_13_method_95_code 125 = .ok (.invokevirtual 335, 3) := by decide +kernel
theorem dd_Mo_laysBoth_128 : decode prog_13_method_95_code 128 = .ok (.ifCond .eq 9, 3) := by decide +kernel
theorem dd_Mo_laysBoth_137 : decode prog_13_method_95_code 137 = .ok (.aload_n 0, 1) := by decide +kernel
theorem dd_Mo_laysBoth_138 : decode prog_13_method_95_code 138 = .ok (.iconst 1, 1) := by decide +kernel
theorem dd_Mo_laysBoth_139 : decode prog_13_method_95_code 139 = .ok (.iload_n 3, 1) := by decide +kernel
theorem dd_Mo_laysBoth_140 : decode prog_13_method_95_code 140 = .ok (.iload 4, 2) := by decide +kernel
theorem dd_Mo_laysBoth_142 : decode prog_13_method_95_code 142 = .ok (.invokevirtual 339, 3) := by decide +kernel
theorem dd_Mo_laysBoth_131 : decode prog_13_method_95_code 131 = .ok (.ldc_w 348, 3) := by decide +kernel
theorem dd_Mo_laysBoth_134 : decode prog_13_method_95_code 134 = .ok (.goto 11, 3) := by decide +kernel
theorem dd_Mo_laysBoth_145 : decode prog_13_method_95_code 145 = .ok (.iastore, 1) := by decide +kernel
theorem dd_Mo_laysBoth_146 : decode prog_13_method_95_code 146 = .ok (.iinc 4 1, 3) := by decide +kernel
theorem dd_Mo_laysBoth_149 : decode prog_13_method_95_code 149 = .ok (.goto (-138), 3) := by decide +kernel
theorem dd_Mo_laysBoth_152 : decode prog_13_method_95_code 152 = .ok (.iinc 3 1, 3) := by decide +kernel
theorem dd_Mo_laysBoth_155 : decode prog_13_method_95_code 155 = .ok (.goto (-153), 3) := by decide +kernel
theorem dd_Mo_laysBoth_158 : decode prog_13_method_95_code 158 = .ok (.return_, 1) := by decide +kernel
def jx_Mo_laysBoth (p0 : Option Nat) (p1 : Int32) (p2 : Int32) : sf_M (Unit) :=
  sf_bnd (sf_loop (β := (Int32)) (γ := (Unit)) (fun b1 =>
  if (8 : Int32) ≤ b1 then (
  sf_ret (.inr ())
  ) else (
  sf_bnd (sf_loop (β := (Int32)) (γ := (Unit)) (fun b3 =>
  if (8 : Int32) ≤ b3 then (
  sf_ret (.inr ())
  ) else (
  if b1 = b3 then (
  sf_bnd (sf_ret (b3 + (1 : Int32))) fun y6 =>
  sf_ret (.inl y6)
  ) else (
  sf_bnd (jx_Mo_pairAt b1 b3) fun x7 =>
  sf_bnd (sf_gR 11 35 p0) fun x8 =>
  sf_bnd (sf_rc 11 p0 (jx_Mo_barredFrom p0 p1 (0 : Int32) b1 b3)) fun x9 =>
  sf_bnd (α := (Int32)) (
  if x9 = 0 then (
  sf_bnd (sf_rc 11 p0 (jx_Mo_costOf p0 (0 : Int32) b1 b3)) fun x11 =>
  sf_ret x11
  ) else (
  sf_ret (100000000 : Int32)
  )
  ) (fun v12 =>
  sf_bnd (sf_sI 0 x8 x7 v12) fun _ =>
  sf_bnd (sf_gR 11 36 p0) fun x13 =>
  sf_bnd (sf_rc 11 p0 (jx_Mo_barredFrom p0 p2 (0 : Int32) b1 b3)) fun x14 =>
  sf_bnd (α := (Int32)) (
  if x14 = 0 then (
  sf_bnd (sf_rc 11 p0 (jx_Mo_costOf p0 (0 : Int32) b1 b3)) fun x16 =>
  sf_ret x16
  ) else (
  sf_ret (100000000 : Int32)
  )
  ) (fun v17 =>
  sf_bnd (sf_sI 0 x13 x7 v17) fun _ =>
  sf_bnd (sf_gR 11 37 p0) fun x18 =>
  sf_bnd (sf_rc 11 p0 (jx_Mo_barredFrom p0 p1 (1 : Int32) b1 b3)) fun x19 =>
  sf_bnd (α := (Int32)) (
  sf_or (α := (Int32)) (β := (Unit)) (
  if x19 = 0 then (
  sf_bnd (sf_rc 11 p0 (jx_Mo_barredFrom p0 p2 (1 : Int32) b1 b3)) fun x21 =>
  if x21 = 0 then (
  sf_bnd (sf_rc 11 p0 (jx_Mo_costOf p0 (1 : Int32) b1 b3)) fun x23 =>
  sf_ret (.inl x23)
  ) else (
  sf_ret (.inr ())
  )
  ) else (
  sf_ret (.inr ())
  )
  ) (fun v24 =>
  sf_ret (100000000 : Int32)
  )
  ) (fun v25 =>
  sf_bnd (sf_sI 0 x18 x7 v25) fun _ =>
  sf_bnd (sf_ret (b3 + (1 : Int32))) fun y26 =>
  sf_ret (.inl y26)
  )
  )
  )
  )
  )
  ) sf_fuel (0 : Int32)) (fun e27 =>
  sf_bnd (sf_ret (b1 + (1 : Int32))) fun y28 =>
  sf_ret (.inl y28)
  )
  )
  ) sf_fuel (0 : Int32)) (fun e29 =>
  sf_ret ()
  )
set_option maxRecDepth 20000 in
set_option maxHeartbeats 4000000 in
theorem ok_Mo_laysBoth (p0 : Option Nat) (p1 : Int32) (p2 : Int32) : sf_Ok ({ cls := "SplitFaresModel", name := "laysBoth", desc := "(II)V" } : Jvm.MethodName) prog_13_method_95_code 6 none 207 [sf_rv p0, .int p1, .int p2] (jx_Mo_laysBoth p0 p1 p2) (fun _ => none) := by
  refine sf_Ok.of (env := [some (sf_rv p0), some (.int p1), some (.int p2), none, none, none]) (plainFor_of_name (by decide)) [false, false, false] (fun G => ⟨pk_r, pk_i, pk_i, trivial⟩) (Nat.le_of_ble_eq_true rfl) rfl (fun X => ?_)
  unfold jx_Mo_laysBoth
  refine fp_iconst (v := (0 : Int32)) dd_Mo_laysBoth_0 (by decide) (fr_pc (pc' := 1) rfl ?_)
  refine fp_istore_n (i := 3) dd_Mo_laysBoth_1 rfl (Nat.le_of_ble_eq_true rfl) (fun _ => c1_i rfl) (fr_to (pc' := 2) (env' := [some (sf_rv p0), some (.int p1), some (.int p2), some (.int (0 : Int32)), none, none]) (stk' := []) rfl rfl rfl ?_)
  refine fr_to (pc' := 2) (env' := [some (sf_rv p0), some (.int p1), some (.int p2), some (.int (0 : Int32)), none, none]) (stk' := []) rfl rfl rfl ?_
  refine fr_bnd (l1 := (fun (e29 : (Unit)) => sf_p 158 [some (sf_rv p0), some (.int p1), some (.int p2), none, none, none] [])) (fr_loop (Lb := (fun (b1 : (Int32)) => sf_p 2 [some (sf_rv p0), some (.int p1), some (.int p2), some (.int b1), none, none] [])) (fun b1 => ?_) _ _) (fun e29 => ?_)
  · refine fp_iload_n (i := 3) (x := b1) dd_Mo_laysBoth_2 rfl rfl (fr_pc (pc' := 3) rfl ?_)
    refine fp_bipush (v := (8 : Int32)) dd_Mo_laysBoth_3 (by decide) (fr_pc (pc' := 5) rfl ?_)
    refine fr_icmp_ge (tgt := 158) dd_Mo_laysBoth_5 rfl (fun _ => ?_) (fun _ => ?_)
    · refine fr_wk [true, true, true, false, false, false] ?_
      exact fr_ret rfl
    · refine fr_pc (pc' := 8) rfl ?_
      refine fp_iconst (v := (0 : Int32)) dd_Mo_laysBoth_8 (by decide) (fr_pc (pc' := 9) rfl ?_)
      refine fp_istore (i := 4) dd_Mo_laysBoth_9 (Nat.le_of_ble_eq_true rfl) (fun _ => c1_i rfl) (fr_to (pc' := 11) (env' := [some (sf_rv p0), some (.int p1), some (.int p2), some (.int b1), some (.int (0 : Int32)), none]) (stk' := []) rfl rfl rfl ?_)
      refine fr_to (pc' := 11) (env' := [some (sf_rv p0), some (.int p1), some (.int p2), some (.int b1), some (.int (0 : Int32)), none]) (stk' := []) rfl rfl rfl ?_
      refine fr_bnd (l1 := (fun (e27 : (Unit)) => sf_p 152 [some (sf_rv p0), some (.int p1), some (.int p2), some (.int b1), none, none] [])) (fr_loop (Lb := (fun (b3 : (Int32)) => sf_p 11 [some (sf_rv p0), some (.int p1), some (.int p2), some (.int b1), some (.int b3), none] [])) (fun b3 => ?_) _ _) (fun e27 => ?_)
      · refine fp_iload (i := 4) (x := b3) dd_Mo_laysBoth_11 rfl (fr_pc (pc' := 13) rfl ?_)
        refine fp_bipush (v := (8 : Int32)) dd_Mo_laysBoth_13 (by decide) (fr_pc (pc' := 15) rfl ?_)
        refine fr_icmp_ge (tgt := 152) dd_Mo_laysBoth_15 rfl (fun _ => ?_) (fun _ => ?_)
        · refine fr_wk [true, true, true, true, false, false] ?_
          exact fr_ret rfl
        · refine fr_pc (pc' := 18) rfl ?_
          refine fp_iload_n (i := 3) (x := b1) dd_Mo_laysBoth_18 rfl rfl (fr_pc (pc' := 19) rfl ?_)
          refine fp_iload (i := 4) (x := b3) dd_Mo_laysBoth_19 rfl (fr_pc (pc' := 21) rfl ?_)
          refine fr_icmp_ne (tgt := 27) dd_Mo_laysBoth_21 rfl (fun _ => ?_) (fun _ => ?_)
          · refine fr_pc (pc' := 24) rfl ?_
            refine fp_goto (tgt := 146) dd_Mo_laysBoth_24 rfl ?_
            refine fr_niinc (i := 4) (x := b3) (w := (1 : Int32)) dd_Mo_laysBoth_146 rfl (by decide) (Nat.le_of_ble_eq_true rfl) (fun _ => c1_i rfl) (fun y6 => fr_to (pc' := 149) (env' := [some (sf_rv p0), some (.int p1), some (.int p2), some (.int b1), some (.int y6), none]) (stk' := []) rfl rfl rfl ?_)
            refine fp_goto (tgt := 11) dd_Mo_laysBoth_149 rfl ?_
            exact fr_ret rfl
          · refine fp_iload_n (i := 3) (x := b1) dd_Mo_laysBoth_27 rfl rfl (fr_pc (pc' := 28) rfl ?_)
            refine fp_iload (i := 4) (x := b3) dd_Mo_laysBoth_28 rfl (fr_pc (pc' := 30) rfl ?_)
            refine fr_callS (stk := []) (ok_Mo_pairAt b1 b3) mt_Mo_pairAt rfl rfl sw_1291 sw_1292 (by decide) (Nat.le_of_ble_eq_true rfl) dd_Mo_laysBoth_30 (fun x7 => fr_to (pc' := 33) (env' := [some (sf_rv p0), some (.int p1), some (.int p2), some (.int b1), some (.int b3), none]) (stk' := [.int x7]) rfl rfl rfl ?_)
            refine fp_istore (i := 5) dd_Mo_laysBoth_33 (Nat.le_of_ble_eq_true rfl) (fun _ => c1_i rfl) (fr_to (pc' := 35) (env' := [some (sf_rv p0), some (.int p1), some (.int p2), some (.int b1), some (.int b3), some (.int x7)]) (stk' := []) rfl rfl rfl ?_)
            refine fp_aload_n (i := 0) (r := p0) dd_Mo_laysBoth_35 rfl rfl (fr_pc (pc' := 36) rfl ?_)
            refine fr_gR cl_11 35 (by decide) rfl sw_1107 dd_Mo_laysBoth_36 (fun x8 => fr_pc (pc' := 39) rfl ?_)
            refine fp_iload (i := 5) (x := x7) dd_Mo_laysBoth_39 rfl (fr_pc (pc' := 41) rfl ?_)
            refine fp_aload_n (i := 0) (r := p0) dd_Mo_laysBoth_41 rfl rfl (fr_pc (pc' := 42) rfl ?_)
            refine fp_iload_n (i := 1) (x := p1) dd_Mo_laysBoth_42 rfl rfl (fr_pc (pc' := 43) rfl ?_)
            refine fp_iconst (v := (0 : Int32)) dd_Mo_laysBoth_43 (by decide) (fr_pc (pc' := 44) rfl ?_)
            refine fp_iload_n (i := 3) (x := b1) dd_Mo_laysBoth_44 rfl rfl (fr_pc (pc' := 45) rfl ?_)
            refine fp_iload (i := 4) (x := b3) dd_Mo_laysBoth_45 rfl (fr_pc (pc' := 47) rfl ?_)
            refine fr_callV (stk := [.int x7, sf_rv x8]) (As := [.int p1, .int (0 : Int32), .int b1, .int b3]) cl_11 (ok_Mo_barredFrom p0 p1 (0 : Int32) b1 b3) mt_Mo_barredFrom rfl rfl sw_1504 sw_1506 sp_69 (by decide) (Nat.le_of_ble_eq_true rfl) dd_Mo_laysBoth_47 (fun x9 => fr_to (pc' := 50) (env' := [some (sf_rv p0), some (.int p1), some (.int p2), some (.int b1), some (.int b3), some (.int x7)]) (stk' := [.int x9, .int x7, sf_rv x8]) rfl rfl rfl ?_)
            refine fr_bnd (l1 := (fun (v12 : (Int32)) => sf_p 67 [some (sf_rv p0), some (.int p1), some (.int p2), some (.int b1), some (.int b3), some (.int x7)] [.int v12, .int x7, sf_rv x8])) ?_ (fun v12 => ?_)
            · refine fr_if_eq (tgt := 59) dd_Mo_laysBoth_50 rfl (fun _ => ?_) (fun _ => ?_)
              · refine fp_aload_n (i := 0) (r := p0) dd_Mo_laysBoth_59 rfl rfl (fr_pc (pc' := 60) rfl ?_)
                refine fp_iconst (v := (0 : Int32)) dd_Mo_laysBoth_60 (by decide) (fr_pc (pc' := 61) rfl ?_)
                refine fp_iload_n (i := 3) (x := b1) dd_Mo_laysBoth_61 rfl rfl (fr_pc (pc' := 62) rfl ?_)
                refine fp_iload (i := 4) (x := b3) dd_Mo_laysBoth_62 rfl (fr_pc (pc' := 64) rfl ?_)
                refine fr_callV (stk := [.int x7, sf_rv x8]) (As := [.int (0 : Int32), .int b1, .int b3]) cl_11 (ok_Mo_costOf p0 (0 : Int32) b1 b3) mt_Mo_costOf rfl rfl sw_1430 sw_1432 sp_53 (by decide) (Nat.le_of_ble_eq_true rfl) dd_Mo_laysBoth_64 (fun x11 => fr_to (pc' := 67) (env' := [some (sf_rv p0), some (.int p1), some (.int p2), some (.int b1), some (.int b3), some (.int x7)]) (stk' := [.int x11, .int x7, sf_rv x8]) rfl rfl rfl ?_)
                exact fr_ret rfl
              · refine fr_pc (pc' := 53) rfl ?_
                refine fp_ldcw (v := (100000000 : Int32)) dd_Mo_laysBoth_53 sw_1535 (fr_pc (pc' := 56) rfl ?_)
                refine fp_goto (tgt := 67) dd_Mo_laysBoth_56 rfl ?_
                exact fr_ret rfl
            · refine fr_sI0 dd_Mo_laysBoth_67 (fr_pc (pc' := 68) rfl ?_)
              refine fp_aload_n (i := 0) (r := p0) dd_Mo_laysBoth_68 rfl rfl (fr_pc (pc' := 69) rfl ?_)
              refine fr_gR cl_11 36 (by decide) rfl sw_1108 dd_Mo_laysBoth_69 (fun x13 => fr_pc (pc' := 72) rfl ?_)
              refine fp_iload (i := 5) (x := x7) dd_Mo_laysBoth_72 rfl (fr_pc (pc' := 74) rfl ?_)
              refine fp_aload_n (i := 0) (r := p0) dd_Mo_laysBoth_74 rfl rfl (fr_pc (pc' := 75) rfl ?_)
              refine fp_iload_n (i := 2) (x := p2) dd_Mo_laysBoth_75 rfl rfl (fr_pc (pc' := 76) rfl ?_)
              refine fp_iconst (v := (0 : Int32)) dd_Mo_laysBoth_76 (by decide) (fr_pc (pc' := 77) rfl ?_)
              refine fp_iload_n (i := 3) (x := b1) dd_Mo_laysBoth_77 rfl rfl (fr_pc (pc' := 78) rfl ?_)
              refine fp_iload (i := 4) (x := b3) dd_Mo_laysBoth_78 rfl (fr_pc (pc' := 80) rfl ?_)
              refine fr_callV (stk := [.int x7, sf_rv x13]) (As := [.int p2, .int (0 : Int32), .int b1, .int b3]) cl_11 (ok_Mo_barredFrom p0 p2 (0 : Int32) b1 b3) mt_Mo_barredFrom rfl rfl sw_1504 sw_1506 sp_69 (by decide) (Nat.le_of_ble_eq_true rfl) dd_Mo_laysBoth_80 (fun x14 => fr_to (pc' := 83) (env' := [some (sf_rv p0), some (.int p1), some (.int p2), some (.int b1), some (.int b3), some (.int x7)]) (stk' := [.int x14, .int x7, sf_rv x13]) rfl rfl rfl ?_)
              refine fr_bnd (l1 := (fun (v17 : (Int32)) => sf_p 100 [some (sf_rv p0), some (.int p1), some (.int p2), some (.int b1), some (.int b3), some (.int x7)] [.int v17, .int x7, sf_rv x13])) ?_ (fun v17 => ?_)
              · refine fr_if_eq (tgt := 92) dd_Mo_laysBoth_83 rfl (fun _ => ?_) (fun _ => ?_)
                · refine fp_aload_n (i := 0) (r := p0) dd_Mo_laysBoth_92 rfl rfl (fr_pc (pc' := 93) rfl ?_)
                  refine fp_iconst (v := (0 : Int32)) dd_Mo_laysBoth_93 (by decide) (fr_pc (pc' := 94) rfl ?_)
                  refine fp_iload_n (i := 3) (x := b1) dd_Mo_laysBoth_94 rfl rfl (fr_pc (pc' := 95) rfl ?_)
                  refine fp_iload (i := 4) (x := b3) dd_Mo_laysBoth_95 rfl (fr_pc (pc' := 97) rfl ?_)
                  refine fr_callV (stk := [.int x7, sf_rv x13]) (As := [.int (0 : Int32), .int b1, .int b3]) cl_11 (ok_Mo_costOf p0 (0 : Int32) b1 b3) mt_Mo_costOf rfl rfl sw_1430 sw_1432 sp_53 (by decide) (Nat.le_of_ble_eq_true rfl) dd_Mo_laysBoth_97 (fun x16 => fr_to (pc' := 100) (env' := [some (sf_rv p0), some (.int p1), some (.int p2), some (.int b1), some (.int b3), some (.int x7)]) (stk' := [.int x16, .int x7, sf_rv x13]) rfl rfl rfl ?_)
                  exact fr_ret rfl
                · refine fr_pc (pc' := 86) rfl ?_
                  refine fp_ldcw (v := (100000000 : Int32)) dd_Mo_laysBoth_86 sw_1535 (fr_pc (pc' := 89) rfl ?_)
                  refine fp_goto (tgt := 100) dd_Mo_laysBoth_89 rfl ?_
                  exact fr_ret rfl
              · refine fr_sI0 dd_Mo_laysBoth_100 (fr_pc (pc' := 101) rfl ?_)
                refine fp_aload_n (i := 0) (r := p0) dd_Mo_laysBoth_101 rfl rfl (fr_pc (pc' := 102) rfl ?_)
                refine fr_gR cl_11 37 (by decide) rfl sw_1109 dd_Mo_laysBoth_102 (fun x18 => fr_pc (pc' := 105) rfl ?_)
                refine fp_iload (i := 5) (x := x7) dd_Mo_laysBoth_105 rfl (fr_pc (pc' := 107) rfl ?_)
                refine fp_aload_n (i := 0) (r := p0) dd_Mo_laysBoth_107 rfl rfl (fr_pc (pc' := 108) rfl ?_)
                refine fp_iload_n (i := 1) (x := p1) dd_Mo_laysBoth_108 rfl rfl (fr_pc (pc' := 109) rfl ?_)
                refine fp_iconst (v := (1 : Int32)) dd_Mo_laysBoth_109 (by decide) (fr_pc (pc' := 110) rfl ?_)
                refine fp_iload_n (i := 3) (x := b1) dd_Mo_laysBoth_110 rfl rfl (fr_pc (pc' := 111) rfl ?_)
                refine fp_iload (i := 4) (x := b3) dd_Mo_laysBoth_111 rfl (fr_pc (pc' := 113) rfl ?_)
                refine fr_callV (stk := [.int x7, sf_rv x18]) (As := [.int p1, .int (1 : Int32), .int b1, .int b3]) cl_11 (ok_Mo_barredFrom p0 p1 (1 : Int32) b1 b3) mt_Mo_barredFrom rfl rfl sw_1504 sw_1506 sp_69 (by decide) (Nat.le_of_ble_eq_true rfl) dd_Mo_laysBoth_113 (fun x19 => fr_to (pc' := 116) (env' := [some (sf_rv p0), some (.int p1), some (.int p2), some (.int b1), some (.int b3), some (.int x7)]) (stk' := [.int x19, .int x7, sf_rv x18]) rfl rfl rfl ?_)
                refine fr_bnd (l1 := (fun (v25 : (Int32)) => sf_p 145 [some (sf_rv p0), some (.int p1), some (.int p2), some (.int b1), some (.int b3), some (.int x7)] [.int v25, .int x7, sf_rv x18])) ?_ (fun v25 => ?_)
                · refine fr_or (l1 := (fun (v24 : (Unit)) => sf_p 131 [some (sf_rv p0), some (.int p1), some (.int p2), some (.int b1), some (.int b3), some (.int x7)] [.int x7, sf_rv x18])) ?_ (fun v24 => ?_)
                  · refine fr_if_ne (tgt := 131) dd_Mo_laysBoth_116 rfl (fun _ => ?_) (fun _ => ?_)
                    · refine fr_pc (pc' := 119) rfl ?_
                      refine fp_aload_n (i := 0) (r := p0) dd_Mo_laysBoth_119 rfl rfl (fr_pc (pc' := 120) rfl ?_)
                      refine fp_iload_n (i := 2) (x := p2) dd_Mo_laysBoth_120 rfl rfl (fr_pc (pc' := 121) rfl ?_)
                      refine fp_iconst (v := (1 : Int32)) dd_Mo_laysBoth_121 (by decide) (fr_pc (pc' := 122) rfl ?_)
                      refine fp_iload_n (i := 3) (x := b1) dd_Mo_laysBoth_122 rfl rfl (fr_pc (pc' := 123) rfl ?_)
                      refine fp_iload (i := 4) (x := b3) dd_Mo_laysBoth_123 rfl (fr_pc (pc' := 125) rfl ?_)
                      refine fr_callV (stk := [.int x7, sf_rv x18]) (As := [.int p2, .int (1 : Int32), .int b1, .int b3]) cl_11 (ok_Mo_barredFrom p0 p2 (1 : Int32) b1 b3) mt_Mo_barredFrom rfl rfl sw_1504 sw_1506 sp_69 (by decide) (Nat.le_of_ble_eq_true rfl) dd_Mo_laysBoth_125 (fun x21 => fr_to (pc' := 128) (env' := [some (sf_rv p0), some (.int p1), some (.int p2), some (.int b1), some (.int b3), some (.int x7)]) (stk' := [.int x21, .int x7, sf_rv x18]) rfl rfl rfl ?_)
                      refine fr_if_eq (tgt := 137) dd_Mo_laysBoth_128 rfl (fun _ => ?_) (fun _ => ?_)
                      · refine fp_aload_n (i := 0) (r := p0) dd_Mo_laysBoth_137 rfl rfl (fr_pc (pc' := 138) rfl ?_)
                        refine fp_iconst (v := (1 : Int32)) dd_Mo_laysBoth_138 (by decide) (fr_pc (pc' := 139) rfl ?_)
                        refine fp_iload_n (i := 3) (x := b1) dd_Mo_laysBoth_139 rfl rfl (fr_pc (pc' := 140) rfl ?_)
                        refine fp_iload (i := 4) (x := b3) dd_Mo_laysBoth_140 rfl (fr_pc (pc' := 142) rfl ?_)
                        refine fr_callV (stk := [.int x7, sf_rv x18]) (As := [.int (1 : Int32), .int b1, .int b3]) cl_11 (ok_Mo_costOf p0 (1 : Int32) b1 b3) mt_Mo_costOf rfl rfl sw_1430 sw_1432 sp_53 (by decide) (Nat.le_of_ble_eq_true rfl) dd_Mo_laysBoth_142 (fun x23 => fr_to (pc' := 145) (env' := [some (sf_rv p0), some (.int p1), some (.int p2), some (.int b1), some (.int b3), some (.int x7)]) (stk' := [.int x23, .int x7, sf_rv x18]) rfl rfl rfl ?_)
                        exact fr_ret rfl
                      · refine fr_pc (pc' := 131) rfl ?_
                        exact fr_ret rfl
                    · exact fr_ret rfl
                  · refine fp_ldcw (v := (100000000 : Int32)) dd_Mo_laysBoth_131 sw_1535 (fr_pc (pc' := 134) rfl ?_)
                    refine fp_goto (tgt := 145) dd_Mo_laysBoth_134 rfl ?_
                    exact fr_ret rfl
                · refine fr_sI0 dd_Mo_laysBoth_145 (fr_pc (pc' := 146) rfl ?_)
                  refine fr_niinc (i := 4) (x := b3) (w := (1 : Int32)) dd_Mo_laysBoth_146 rfl (by decide) (Nat.le_of_ble_eq_true rfl) (fun _ => c1_i rfl) (fun y26 => fr_to (pc' := 149) (env' := [some (sf_rv p0), some (.int p1), some (.int p2), some (.int b1), some (.int y26), some (.int x7)]) (stk' := []) rfl rfl rfl ?_)
                  refine fp_goto (tgt := 11) dd_Mo_laysBoth_149 rfl ?_
                  refine fr_wk [true, true, true, true, true, false] ?_
                  exact fr_ret rfl
      · refine fr_niinc (i := 3) (x := b1) (w := (1 : Int32)) dd_Mo_laysBoth_152 rfl (by decide) (Nat.le_of_ble_eq_true rfl) (fun _ => c1_i rfl) (fun y28 => fr_to (pc' := 155) (env' := [some (sf_rv p0), some (.int p1), some (.int p2), some (.int y28), none, none]) (stk' := []) rfl rfl rfl ?_)
        refine fp_goto (tgt := 2) dd_Mo_laysBoth_155 rfl ?_
        exact fr_ret rfl
  · exact fr_vret rfl rfl dd_Mo_laysBoth_158
theorem mt_Mo_between : sf_Mt ({ cls := "SplitFaresModel", name := "between", desc := "(II)I" } : Jvm.MethodName) prog_13_method_96_code 4 (some .int) 2 := ⟨sw_1581, sw_12, ⟨by decide, by decide, by decide +kernel⟩, by decide⟩
theorem dd_Mo_between_0 : decode prog_13_method_96_code 0 = .ok (.iconst 0, 1) := by decide +kernel
theorem dd_Mo_between_1 : decode prog_13_method_96_code 1 = .ok (.istore_n 2, 1) := by decide +kernel
theorem dd_Mo_between_2 : decode prog_13_method_96_code 2 = .ok (.iload_n 0, 1) := by decide +kernel
theorem dd_Mo_between_3 : decode prog_13_method_96_code 3 = .ok (.iload_n 1, 1) := by decide +kernel
theorem dd_Mo_between_4 : decode prog_13_method_96_code 4 = .ok (.invokestatic 355, 3) := by decide +kernel
theorem dd_Mo_between_7 : decode prog_13_method_96_code 7 = .ok (.iconst 1, 1) := by decide +kernel
theorem dd_Mo_between_8 : decode prog_13_method_96_code 8 = .ok (.iadd, 1) := by decide +kernel
theorem dd_Mo_between_9 : decode prog_13_method_96_code 9 = .ok (.istore_n 3, 1) := by decide +kernel
theorem dd_Mo_between_10 : decode prog_13_method_96_code 10 = .ok (.iload_n 3, 1) := by decide +kernel
theorem dd_Mo_between_11 : decode prog_13_method_96_code 11 = .ok (.iload_n 0, 1) := by decide +kernel
theorem dd_Mo_between_12 : decode prog_13_method_96_code 12 = .ok (.iload_n 1, 1) := by decide +kernel
theorem dd_Mo_between_13 : decode prog_13_method_96_code 13 = .ok (.invokestatic 388, 3) := by decide +kernel
theorem dd_Mo_between_16 : decode prog_13_method_96_code 16 = .ok (.if_icmp .ge 15, 3) := by decide +kernel
theorem dd_Mo_between_19 : decode prog_13_method_96_code 19 = .ok (.iload_n 2, 1) := by decide +kernel
theorem dd_Mo_between_20 : decode prog_13_method_96_code 20 = .ok (.iconst 1, 1) := by decide +kernel
theorem dd_Mo_between_21 : decode prog_13_method_96_code 21 = .ok (.iload_n 3, 1) := by decide +kernel
theorem dd_Mo_between_22 : decode prog_13_method_96_code 22 = .ok (.ishl, 1) := by decide +kernel
theorem dd_Mo_between_23 : decode prog_13_method_96_code 23 = .ok (.ior, 1) := by decide +kernel
theorem dd_Mo_between_24 : decode prog_13_method_96_code 24 = .ok (.istore_n 2, 1) := by decide +kernel
theorem dd_Mo_between_25 : decode prog_13_method_96_code 25 = .ok (.iinc 3 1, 3) := by decide +kernel
theorem dd_Mo_between_28 : decode prog_13_method_96_code 28 = .ok (.goto (-18), 3) := by decide +kernel
theorem dd_Mo_between_31 : decode prog_13_method_96_code 31 = .ok (.iload_n 2, 1) := by decide +kernel
theorem dd_Mo_between_32 : decode prog_13_method_96_code 32 = .ok (.ireturn, 1) := by decide +kernel
def jx_Mo_between (p0 : Int32) (p1 : Int32) : sf_M (Int32) :=
  sf_bnd (jx_Mo_lesser p0 p1) fun x1 =>
  sf_bnd (sf_ret ((x1 + (1 : Int32)))) fun y2 =>
  sf_bnd (sf_loop (β := (Int32 × Int32)) (γ := (Int32)) (fun b3 =>
  sf_bnd (jx_Mo_greater p0 p1) fun x4 =>
  if x4 ≤ b3.2 then (
  sf_ret (.inr b3.1)
  ) else (
  sf_bnd (sf_ret ((b3.1 ||| ((1 : Int32) <<< (b3.2 &&& 31))))) fun y6 =>
  sf_bnd (sf_ret (b3.2 + (1 : Int32))) fun y7 =>
  sf_ret (.inl (y6, y7))
  )
  ) sf_fuel ((0 : Int32), y2)) (fun e8 =>
  sf_ret e8
  )
set_option maxRecDepth 20000 in
set_option maxHeartbeats 4000000 in
theorem ok_Mo_between (p0 : Int32) (p1 : Int32) : sf_Ok ({ cls := "SplitFaresModel", name := "between", desc := "(II)I" } : Jvm.MethodName) prog_13_method_96_code 4 (some .int) 1 [.int p0, .int p1] (jx_Mo_between p0 p1) (fun r => some (.int r)) := by
  refine sf_Ok.of (env := [some (.int p0), some (.int p1), none, none]) (plainFor_of_name (by decide)) [false, false] (fun G => ⟨pk_i, pk_i, trivial⟩) (Nat.le_of_ble_eq_true rfl) rfl (fun X => ?_)
  unfold jx_Mo_between
  refine fp_iconst (v := (0 : Int32)) dd_Mo_between_0 (by decide) (fr_pc (pc' := 1) rfl ?_)
  refine fp_istore_n (i := 2) dd_Mo_between_1 rfl (Nat.le_of_ble_eq_true rfl) (fun _ => c1_i rfl) (fr_to (pc' := 2) (env' := [some (.int p0), some (.int p1), some (.int (0 : Int32)), none]) (stk' := []) rfl rfl rfl ?_)
  refine fp_iload_n (i := 0) (x := p0) dd_Mo_between_2 rfl rfl (fr_pc (pc' := 3) rfl ?_)
  refine fp_iload_n (i := 1) (x := p1) dd_Mo_between_3 rfl rfl (fr_pc (pc' := 4) rfl ?_)
  refine fr_callS (stk := []) (ok_Mo_lesser p0 p1) mt_Mo_lesser rfl rfl sw_1540 sw_1541 (by decide) (Nat.le_of_ble_eq_true rfl) dd_Mo_between_4 (fun x1 => fr_to (pc' := 7) (env' := [some (.int p0), some (.int p1), some (.int (0 : Int32)), none]) (stk' := [.int x1]) rfl rfl rfl ?_)
  refine fp_iconst (v := (1 : Int32)) dd_Mo_between_7 (by decide) (fr_pc (pc' := 8) rfl ?_)
  refine fp_iadd dd_Mo_between_8 (fr_pc (pc' := 9) rfl ?_)
  refine fr_nistore_n (i := 3) dd_Mo_between_9 rfl (Nat.le_of_ble_eq_true rfl) (fun _ => c1_i rfl) (fun y2 => fr_to (pc' := 10) (env' := [some (.int p0), some (.int p1), some (.int (0 : Int32)), some (.int y2)]) (stk' := []) rfl rfl rfl ?_)
  refine fr_to (pc' := 10) (env' := [some (.int p0), some (.int p1), some (.int (0 : Int32)), some (.int y2)]) (stk' := []) rfl rfl rfl ?_
  refine fr_bnd (l1 := (fun (e8 : (Int32)) => sf_p 31 [some (.int p0), some (.int p1), some (.int e8), none] [])) (fr_loop (Lb := (fun (b3 : (Int32 × Int32)) => sf_p 10 [some (.int p0), some (.int p1), some (.int b3.1), some (.int b3.2)] [])) (fun b3 => ?_) _ _) (fun e8 => ?_)
  · refine fp_iload_n (i := 3) (x := b3.2) dd_Mo_between_10 rfl rfl (fr_pc (pc' := 11) rfl ?_)
    refine fp_iload_n (i := 0) (x := p0) dd_Mo_between_11 rfl rfl (fr_pc (pc' := 12) rfl ?_)
    refine fp_iload_n (i := 1) (x := p1) dd_Mo_between_12 rfl rfl (fr_pc (pc' := 13) rfl ?_)
    refine fr_callS (stk := [.int b3.2]) (ok_Mo_greater p0 p1) mt_Mo_greater rfl rfl sw_1582 sw_1583 (by decide) (Nat.le_of_ble_eq_true rfl) dd_Mo_between_13 (fun x4 => fr_to (pc' := 16) (env' := [some (.int p0), some (.int p1), some (.int b3.1), some (.int b3.2)]) (stk' := [.int x4, .int b3.2]) rfl rfl rfl ?_)
    refine fr_icmp_ge (tgt := 31) dd_Mo_between_16 rfl (fun _ => ?_) (fun _ => ?_)
    · refine fr_wk [true, true, true, false] ?_
      exact fr_ret rfl
    · refine fr_pc (pc' := 19) rfl ?_
      refine fp_iload_n (i := 2) (x := b3.1) dd_Mo_between_19 rfl rfl (fr_pc (pc' := 20) rfl ?_)
      refine fp_iconst (v := (1 : Int32)) dd_Mo_between_20 (by decide) (fr_pc (pc' := 21) rfl ?_)
      refine fp_iload_n (i := 3) (x := b3.2) dd_Mo_between_21 rfl rfl (fr_pc (pc' := 22) rfl ?_)
      refine fp_ishl dd_Mo_between_22 (fr_pc (pc' := 23) rfl ?_)
      refine fp_ior dd_Mo_between_23 (fr_pc (pc' := 24) rfl ?_)
      refine fr_nistore_n (i := 2) dd_Mo_between_24 rfl (Nat.le_of_ble_eq_true rfl) (fun _ => c1_i rfl) (fun y6 => fr_to (pc' := 25) (env' := [some (.int p0), some (.int p1), some (.int y6), some (.int b3.2)]) (stk' := []) rfl rfl rfl ?_)
      refine fr_niinc (i := 3) (x := b3.2) (w := (1 : Int32)) dd_Mo_between_25 rfl (by decide) (Nat.le_of_ble_eq_true rfl) (fun _ => c1_i rfl) (fun y7 => fr_to (pc' := 28) (env' := [some (.int p0), some (.int p1), some (.int y6), some (.int y7)]) (stk' := []) rfl rfl rfl ?_)
      refine fp_goto (tgt := 10) dd_Mo_between_28 rfl ?_
      exact fr_ret rfl
  · refine fp_iload_n (i := 2) (x := e8) dd_Mo_between_31 rfl rfl (fr_pc (pc' := 32) rfl ?_)
    exact fr_iret (v := e8) rfl rfl dd_Mo_between_32
theorem mt_Mo_nextIn : sf_Mt ({ cls := "SplitFaresModel", name := "nextIn", desc := "(III)I" } : Jvm.MethodName) prog_13_method_97_code 5 (some .int) 3 := ⟨sw_1591, sw_12, ⟨by decide, by decide, by decide +kernel⟩, by decide⟩
theorem dd_Mo_nextIn_0 : decode prog_13_method_97_code 0 = .ok (.iload_n 2, 1) := by decide +kernel
theorem dd_Mo_nextIn_1 : decode prog_13_method_97_code 1 = .ok (.iload_n 1, 1) := by decide +kernel
theorem dd_Mo_nextIn_2 : decode prog_13_method_97_code 2 = .ok (.if_icmp .le 7, 3) := by decide +kernel
theorem dd_Mo_nextIn_5 : decode prog_13_method_97_code 5 = .ok (.iconst 1, 1) := by decide +kernel
theorem dd_Mo_nextIn_6 : decode prog_13_method_97_code 6 = .ok (.goto 4, 3) := by decide +kernel
theorem dd_Mo_nextIn_9 : decode prog_13_method_97_code 9 = .ok (.iconst (-1), 1) := by decide +kernel
theorem dd_Mo_nextIn_10 : decode prog_13_method_97_code 10 = .ok (.istore_n 3, 1) := by decide +kernel
theorem dd_Mo_nextIn_11 : decode prog_13_method_97_code 11 = .ok (.iload_n 1, 1) := by decide +kernel
theorem dd_Mo_nextIn_12 : decode prog_13_method_97_code 12 = .ok (.iload_n 3, 1) := by decide +kernel
theorem dd_Mo_nextIn_13 : decode prog_13_method_97_code 13 = .ok (.iadd, 1) := by decide +kernel
theorem dd_Mo_nextIn_14 : decode prog_13_method_97_code 14 = .ok (.istore 4, 2) := by decide +kernel
theorem dd_Mo_nextIn_16 : decode prog_13_method_97_code 16 = .ok (.iload 4, 2) := by decide +kernel
theorem dd_Mo_nextIn_18 : decode prog_13_method_97_code 18 = .ok (.iload_n 2, 1) := by decide +kernel
theorem dd_Mo_nextIn_19 : decode prog_13_method_97_code 19 = .ok (.if_icmp .eq 21, 3) := by decide +kernel
theorem dd_Mo_nextIn_22 : decode prog_13_method_97_code 22 = .ok (.iload_n 0, 1) := by decide +kernel
theorem dd_Mo_nextIn_23 : decode prog_13_method_97_code 23 = .ok (.iload 4, 2) := by decide +kernel
theorem dd_Mo_nextIn_25 : decode prog_13_method_97_code 25 = .ok (.invokestatic 342, 3) := by decide +kernel
theorem dd_Mo_nextIn_28 : decode prog_13_method_97_code 28 = .ok (.ifCond .ne 12, 3) := by decide +kernel
theorem dd_Mo_nextIn_31 : decode prog_13_method_97_code 31 = .ok (.iload 4, 2) := by decide +kernel
theorem dd_Mo_nextIn_33 : decode prog_13_method_97_code 33 = .ok (.iload_n 3, 1) := by decide +kernel
theorem dd_Mo_nextIn_34 : decode prog_13_method_97_code 34 = .ok (.iadd, 1) := by decide +kernel
theorem dd_Mo_nextIn_35 : decode prog_13_method_97_code 35 = .ok (.istore 4, 2) := by decide +kernel
theorem dd_Mo_nextIn_37 : decode prog_13_method_97_code 37 = .ok (.goto (-21), 3) := by decide +kernel
theorem dd_Mo_nextIn_40 : decode prog_13_method_97_code 40 = .ok (.iload 4, 2) := by decide +kernel
theorem dd_Mo_nextIn_42 : decode prog_13_method_97_code 42 = .ok (.ireturn, 1) := by decide +kernel
def jx_Mo_nextIn (p0 : Int32) (p1 : Int32) (p2 : Int32) : sf_M (Int32) :=
  sf_bnd (α := (Int32)) (
  if p2 ≤ p1 then (
  sf_ret (-1 : Int32)
  ) else (
  sf_ret (1 : Int32)
  )
  ) (fun v2 =>
  sf_bnd (sf_ret ((p1 + v2))) fun y3 =>
  sf_bnd (sf_loop (β := (Int32)) (γ := (Int32)) (fun b4 =>
  if b4 = p2 then (
  sf_ret (.inr b4)
  ) else (
  sf_bnd (jx_Mo_isIn p0 b4) fun x6 =>
  if x6 = 0 then (
  sf_bnd (sf_ret ((b4 + v2))) fun y8 =>
  sf_ret (.inl y8)
  ) else (
  sf_ret (.inr b4)
  )
  )
  ) sf_fuel y3) (fun e9 =>
  sf_ret e9
  )
  )
set_option maxRecDepth 20000 in
set_option maxHeartbeats 4000000 in
theorem ok_Mo_nextIn (p0 : Int32) (p1 : Int32) (p2 : Int32) : sf_Ok ({ cls := "SplitFaresModel", name := "nextIn", desc := "(III)I" } : Jvm.MethodName) prog_13_method_97_code 5 (some .int) 1 [.int p0, .int p1, .int p2] (jx_Mo_nextIn p0 p1 p2) (fun r => some (.int r)) := by
  refine sf_Ok.of (env := [some (.int p0), some (.int p1), some (.int p2), none, none]) (plainFor_of_name (by decide)) [false, false, false] (fun G => ⟨pk_i, pk_i, pk_i, trivial⟩) (Nat.le_of_ble_eq_true rfl) rfl (fun X => ?_)
  unfold jx_Mo_nextIn
  refine fp_iload_n (i := 2) (x := p2) dd_Mo_nextIn_0 rfl rfl (fr_pc (pc' := 1) rfl ?_)
  refine fp_iload_n (i := 1) (x := p1) dd_Mo_nextIn_1 rfl rfl (fr_pc (pc' := 2) rfl ?_)
  refine fr_bnd (l1 := (fun (v2 : (Int32)) => sf_p 10 [some (.int p0), some (.int p1), some (.int p2), none, none] [.int v2])) ?_ (fun v2 => ?_)
  · refine fr_icmp_le (tgt := 9) dd_Mo_nextIn_2 rfl (fun _ => ?_) (fun _ => ?_)
    · refine fp_iconst (v := (-1 : Int32)) dd_Mo_nextIn_9 (by decide) (fr_pc (pc' := 10) rfl ?_)
      exact fr_ret rfl
    · refine fr_pc (pc' := 5) rfl ?_
      refine fp_iconst (v := (1 : Int32)) dd_Mo_nextIn_5 (by decide) (fr_pc (pc' := 6) rfl ?_)
      refine fp_goto (tgt := 10) dd_Mo_nextIn_6 rfl ?_
      exact fr_ret rfl
  · refine fp_istore_n (i := 3) dd_Mo_nextIn_10 rfl (Nat.le_of_ble_eq_true rfl) (fun _ => c1_i rfl) (fr_to (pc' := 11) (env' := [some (.int p0), some (.int p1), some (.int p2), some (.int v2), none]) (stk' := []) rfl rfl rfl ?_)
    refine fp_iload_n (i := 1) (x := p1) dd_Mo_nextIn_11 rfl rfl (fr_pc (pc' := 12) rfl ?_)
    refine fp_iload_n (i := 3) (x := v2) dd_Mo_nextIn_12 rfl rfl (fr_pc (pc' := 13) rfl ?_)
    refine fp_iadd dd_Mo_nextIn_13 (fr_pc (pc' := 14) rfl ?_)
    refine fr_nistore (i := 4) dd_Mo_nextIn_14 (Nat.le_of_ble_eq_true rfl) (fun _ => c1_i rfl) (fun y3 => fr_to (pc' := 16) (env' := [some (.int p0), some (.int p1), some (.int p2), some (.int v2), some (.int y3)]) (stk' := []) rfl rfl rfl ?_)
    refine fr_to (pc' := 16) (env' := [some (.int p0), some (.int p1), some (.int p2), some (.int v2), some (.int y3)]) (stk' := []) rfl rfl rfl ?_
    refine fr_bnd (l1 := (fun (e9 : (Int32)) => sf_p 40 [some (.int p0), some (.int p1), some (.int p2), some (.int v2), some (.int e9)] [])) (fr_loop (Lb := (fun (b4 : (Int32)) => sf_p 16 [some (.int p0), some (.int p1), some (.int p2), some (.int v2), some (.int b4)] [])) (fun b4 => ?_) _ _) (fun e9 => ?_)
    · refine fp_iload (i := 4) (x := b4) dd_Mo_nextIn_16 rfl (fr_pc (pc' := 18) rfl ?_)
      refine fp_iload_n (i := 2) (x := p2) dd_Mo_nextIn_18 rfl rfl (fr_pc (pc' := 19) rfl ?_)
      refine fr_icmp_eq (tgt := 40) dd_Mo_nextIn_19 rfl (fun _ => ?_) (fun _ => ?_)
      · exact fr_ret rfl
      · refine fr_pc (pc' := 22) rfl ?_
        refine fp_iload_n (i := 0) (x := p0) dd_Mo_nextIn_22 rfl rfl (fr_pc (pc' := 23) rfl ?_)
        refine fp_iload (i := 4) (x := b4) dd_Mo_nextIn_23 rfl (fr_pc (pc' := 25) rfl ?_)
        refine fr_callS (stk := []) (ok_Mo_isIn p0 b4) mt_Mo_isIn rfl rfl sw_1520 sw_1521 (by decide) (Nat.le_of_ble_eq_true rfl) dd_Mo_nextIn_25 (fun x6 => fr_to (pc' := 28) (env' := [some (.int p0), some (.int p1), some (.int p2), some (.int v2), some (.int b4)]) (stk' := [.int x6]) rfl rfl rfl ?_)
        refine fr_if_ne (tgt := 40) dd_Mo_nextIn_28 rfl (fun _ => ?_) (fun _ => ?_)
        · refine fr_pc (pc' := 31) rfl ?_
          refine fp_iload (i := 4) (x := b4) dd_Mo_nextIn_31 rfl (fr_pc (pc' := 33) rfl ?_)
          refine fp_iload_n (i := 3) (x := v2) dd_Mo_nextIn_33 rfl rfl (fr_pc (pc' := 34) rfl ?_)
          refine fp_iadd dd_Mo_nextIn_34 (fr_pc (pc' := 35) rfl ?_)
          refine fr_nistore (i := 4) dd_Mo_nextIn_35 (Nat.le_of_ble_eq_true rfl) (fun _ => c1_i rfl) (fun y8 => fr_to (pc' := 37) (env' := [some (.int p0), some (.int p1), some (.int p2), some (.int v2), some (.int y8)]) (stk' := []) rfl rfl rfl ?_)
          refine fp_goto (tgt := 16) dd_Mo_nextIn_37 rfl ?_
          exact fr_ret rfl
        · exact fr_ret rfl
    · refine fp_iload (i := 4) (x := e9) dd_Mo_nextIn_40 rfl (fr_pc (pc' := 42) rfl ?_)
      exact fr_iret (v := e9) rfl rfl dd_Mo_nextIn_42
theorem mt_Mo_costsTogether : sf_Mt ({ cls := "SplitFaresModel", name := "costsTogether", desc := "(IIII)I" } : Jvm.MethodName) prog_13_method_98_code 10 (some .int) 4 := ⟨sw_1588, sw_12, ⟨by decide, by decide, by decide +kernel⟩, by decide⟩
theorem dd_Mo_costsTogether_0 : decode prog_13_method_98_code 0 = .ok (.iconst 0, 1) := by decide +kernel
theorem dd_Mo_costsTogether_1 : decode prog_13_method_98_code 1 = .ok (.istore 5, 2) := by decide +kernel
theorem dd_Mo_costsTogether_3 : decode prog_13_method_98_code 3 = .ok (.iload 4, 2) := by decide +kernel
theorem dd_Mo_costsTogether_5 : decode prog_13_method_98_code 5 = .ok (.istore 6, 2) := by decide +kernel
theorem dd_Mo_costsTogether_7 : decode prog_13_method_98_code 7 = .ok (.iload 6, 2) := by decide +kernel
theorem dd_Mo_costsTogether_9 : decode prog_13_method_98_code 9 = .ok (.iload_n 3, 1) := by decide +kernel
theorem dd_Mo_costsTogether_10 : decode prog_13_method_98_code 10 = .ok (.if_icmp .eq 37, 3) := by decide +kernel
theorem dd_Mo_costsTogether_13 : decode prog_13_method_98_code 13 = .ok (.iload 5, 2) := by decide +kernel
theorem dd_Mo_costsTogether_15 : decode prog_13_method_98_code 15 = .ok (.aload_n 0, 1) := by decide +kernel
theorem dd_Mo_costsTogether_16 : decode prog_13_method_98_code 16 = .ok (.getfield 88, 3) := by decide +kernel
theorem dd_Mo_costsTogether_19 : decode prog_13_method_98_code 19 = .ok (.iload 6, 2) := by decide +kernel
theorem dd_Mo_costsTogether_21 : decode prog_13_method_98_code 21 = .ok (.iload_n 2, 1) := by decide +kernel
theorem dd_Mo_costsTogether_22 : decode prog_13_method_98_code 22 = .ok (.iload 6, 2) := by decide +kernel
theorem dd_Mo_costsTogether_24 : decode prog_13_method_98_code 24 = .ok (.iload_n 3, 1) := by decide +kernel
theorem dd_Mo_costsTogether_25 : decode prog_13_method_98_code 25 = .ok (.invokestatic 391, 3) := by decide +kernel
theorem dd_Mo_costsTogether_28 : decode prog_13_method_98_code 28 = .ok (.invokestatic 135, 3) := by decide +kernel
theorem dd_Mo_costsTogether_31 : decode prog_13_method_98_code 31 = .ok (.iaload, 1) := by decide +kernel
theorem dd_Mo_costsTogether_32 : decode prog_13_method_98_code 32 = .ok (.iadd, 1) := by decide +kernel
theorem dd_Mo_costsTogether_33 : decode prog_13_method_98_code 33 = .ok (.istore 5, 2) := by decide +kernel
theorem dd_Mo_costsTogether_35 : decode prog_13_method_98_code 35 = .ok (.iload_n 2, 1) := by decide +kernel
theorem dd_Mo_costsTogether_36 : decode prog_13_method_98_code 36 = .ok (.iload 6, 2) := by decide +kernel
theorem dd_Mo_costsTogether_38 : decode prog_13_method_98_code 38 = .ok (.iload_n 3, 1) := by decide +kernel
theorem dd_Mo_costsTogether_39 : decode prog_13_method_98_code 39 = .ok (.invokestatic 391, 3) := by decide +kernel
theorem dd_Mo_costsTogether_42 : decode prog_13_method_98_code 42 = .ok (.istore 6, 2) := by decide +kernel
theorem dd_Mo_costsTogether_44 : decode prog_13_method_98_code 44 = .ok (.goto (-37), 3) := by decide +kernel
theorem dd_Mo_costsTogether_47 : decode prog_13_method_98_code 47 = .ok (.iload_n 3, 1) := by decide +kernel
theorem dd_Mo_costsTogether_48 : decode prog_13_method_98_code 48 = .ok (.istore 6, 2) := by decide +kernel
theorem dd_Mo_costsTogether_50 : decode prog_13_method_98_code 50 = .ok (.iload 6, 2) := by decide +kernel
theorem dd_Mo_costsTogether_52 : decode prog_13_method_98_code 52 = .ok (.iload 4, 2) := by decide +kernel
theorem dd_Mo_costsTogether_54 : decode prog_13_method_98_code 54 = .ok (.if_icmp .eq 120, 3) := by decide +kernel
theorem dd_Mo_costsTogether_57 : decode prog_13_method_98_code 57 = .ok (.iload_n 1, 1) := by decide +kernel
theorem dd_Mo_costsTogether_58 : decode prog_13_method_98_code 58 = .ok (.iload 6, 2) := by decide +kernel
theorem dd_Mo_costsTogether_60 : decode prog_13_method_98_code 60 = .ok (.iload 4, 2) := by decide +kernel
theorem dd_Mo_costsTogether_62 : decode prog_13_method_98_code 62 = .ok (.invokestatic 391, 3) := by decide +kernel
theorem dd_Mo_costsTogether_65 : decode prog_13_method_98_code 65 = .ok (.istore 7, 2) := by decide +kernel
theorem dd_Mo_costsTogether_67 : decode prog_13_method_98_code 67 = .ok (.iload 7, 2) := by decide +kernel
theorem dd_Mo_costsTogether_69 : decode prog_13_method_98_code 69 = .ok (.iload 4, 2) := by decide +kernel
theorem dd_Mo_costsTogether_71 : decode prog_13_method_98_code 71 = .ok (.if_icmp .eq 12, 3) := by decide +kernel
theorem dd_Mo_costsTogether_74 : decode prog_13_method_98_code 74 = .ok (.iload_n 2, 1) := by decide +kernel
theorem dd_Mo_costsTogether_75 : decode prog_13_method_98_code 75 = .ok (.iload 7, 2) := by decide +kernel
theorem dd_Mo_costsTogether_77 : decode prog_13_method_98_code 77 = .ok (.invokestatic 342, 3) := by decide +kernel
theorem dd_Mo_costsTogether_80 : decode prog_13_method_98_code 80 = .ok (.ifCond .eq 19, 3) := by decide +kernel
theorem dd_Mo_costsTogether_83 : decode prog_13_method_98_code 83 = .ok (.iload_n 2, 1) := by decide +kernel
theorem dd_Mo_costsTogether_84 : decode prog_13_method_98_code 84 = .ok (.iload 7, 2) := by decide +kernel
theorem dd_Mo_costsTogether_86 : decode prog_13_method_98_code 86 = .ok (.iload_n 3, 1) := by decide +kernel
theorem dd_Mo_costsTogether_87 : decode prog_13_method_98_code 87 = .ok (.invokestatic 391, 3) := by decide +kernel
theorem dd_Mo_costsTogether_90 : decode prog_13_method_98_code 90 = .ok (.iload 6, 2) := by decide +kernel
theorem dd_Mo_costsTogether_92 : decode prog_13_method_98_code 92 = .ok (.if_icmp .ne 7, 3) := by decide +kernel
theorem dd_Mo_costsTogether_95 : decode prog_13_method_98_code 95 = .ok (.iconst 1, 1) := by decide +kernel
theorem dd_Mo_costsTogether_96 : decode prog_13_method_98_code 96 = .ok (.goto 4, 3) := by decide +kernel
theorem dd_Mo_costsTogether_99 : decode prog_13_method_98_code 99 = .ok (.iconst 0, 1) := by decide +kernel
theorem dd_Mo_costsTogether_100 : decode prog_13_method_98_code 100 = .ok (.istore 8, 2) := by decide +kernel
theorem dd_Mo_costsTogether_102 : decode prog_13_method_98_code 102 = .ok (.aload_n 0, 1) := by decide +kernel
theorem dd_Mo_costsTogether_103 : decode prog_13_method_98_code 103 = .ok (.getfield 85, 3) := by decide +kernel
theorem dd_Mo_costsTogether_106 : decode prog_13_method_98_code 106 = .ok (.iload 6, 2) := by decide +kernel
theorem dd_Mo_costsTogether_108 : decode prog_13_method_98_code 108 = .ok (.iload 7, 2) := by decide +kernel
theorem dd_Mo_costsTogether_110 : decode prog_13_method_98_code 110 = .ok (.invokestatic 135, 3) := by decide +kernel
theorem dd_Mo_costsTogether_113 : decode prog_13_method_98_code 113 = .ok (.iaload, 1) := by decide +kernel
theorem dd_Mo_costsTogether_114 : decode prog_13_method_98_code 114 = .ok (.istore 9, 2) := by decide +kernel
theorem dd_Mo_costsTogether_116 : decode prog_13_method_98_code 116 = .ok (.iload 5, 2) := by decide +kernel
theorem dd_Mo_costsTogether_118 : decode prog_13_method_98_code 118 = .ok (.iload 8, 2) := by decide +kernel
theorem dd_Mo_costsTogether_120 : decode prog_13_method_98_code 120 = .ok (.ifCond .eq 36, 3) := by decide +kernel
theorem dd_Mo_costsTogether_123 : decode prog_13_method_98_code 123 = .ok (.iload 9, 2) := by decide +kernel
theorem dd_Mo_costsTogether_125 : decode prog_13_method_98_code 125 = .ok (.aload_n 0, 1) := by decide +kernel
theorem dd_Mo_costsTogether_126 : decode prog_13_method_98_code 126 = .ok (.getfield 91, 3) := by decide +kernel
theorem dd_Mo_costsTogether_129 : decode prog_13_method_98_code 129 = .ok (.iload 6, 2) := by decide +kernel
theorem dd_Mo_costsTogether_131 : decode prog_13_method_98_code 131 = .ok (.iload 7, 2) := by decide +kernel
theorem dd_Mo_costsTogether_133 : decode prog_13_method_98_code 133 = .ok (.invokestatic 135, 3) := by decide +kernel
theorem dd_Mo_costsTogether_136 : decode prog_13_method_98_code 136 = .ok (.iaload, 1) := by decide +kernel
theorem dd_Mo_costsTogether_137 : decode prog_13_method_98_code 137 = .ok (.aload_n 0, 1) := by decide +kernel
theorem dd_Mo_costsTogether_138 : decode prog_13_method_98_code 138 = .ok (.getfield 88, 3) := by decide +kernel
theorem dd_Mo_costsTogether_141 : decode prog_13_method_98_code 141 = .ok (.iload 7, 2) := by decide +kernel
theorem dd_Mo_costsTogether_143 : decode prog_13_method_98_code 143 = .ok (.iload 6, 2) := by decide +kernel
theorem dd_Mo_costsTogether_145 : decode prog_13_method_98_code 145 = .ok (.invokestatic 135, 3) := by decide +kernel
theorem dd_Mo_costsTogether_148 : decode prog_13_method_98_code 148 = .ok (.iaload, 1) := by decide +kernel
theorem dd_Mo_costsTogether_149 : decode prog_13_method_98_code 149 = .ok (.isub, 1) := by decide +kernel
theorem dd_Mo_costsTogether_150 : decode prog_13_method_98_code 150 = .ok (.invokestatic 355, 3) := by decide +kernel
theorem dd_Mo_costsTogether_153 : decode prog_13_method_98_code 153 = .ok (.goto 5, 3) := by decide +kernel
theorem dd_Mo_costsTogether_156 : decode prog_13_method_98_code 156 = .ok (.iload 9, 2) := by decide +kernel
theorem dd_Mo_costsTogether_158 : decode prog_13_method_98_code 158 = .ok (.iadd, 1) := by decide +kernel
theorem dd_Mo_costsTogether_159 : decode prog_13_method_98_code 159 = .ok (.istore 5, 2) := by decide +kernel
theorem dd_Mo_costsTogether_161 : decode prog_13_method_98_code 161 = .ok (.iload_n 1, 1) := by decide +kernel
theorem dd_Mo_costsTogether_162 : decode prog_13_method_98_code 162 = .ok (.iload 6, 2) := by decide +kernel
theorem dd_Mo_costsTogether_164 : decode prog_13_method_98_code 164 = .ok (.iload 4, 2) := by decide +kernel
theorem dd_Mo_costsTogether_166 : decode prog_13_method_98_code 166 = .ok (.invokestatic 391, 3) := by decide +kernel
theorem dd_Mo_costsTogether_169 : decode prog_13_method_98_code 169 = .ok (.istore 6, 2) := by decide +kernel
theorem dd_Mo_costsTogether_171 : decode prog_13_method_98_code 171 = .ok (.goto (-121), 3) := by decide +kernel
theorem dd_Mo_costsTogether_174 : decode prog_13_method_98_code 174 = .ok (.iload 5, 2) := by decide +kernel
theorem dd_Mo_costsTogether_176 : decode prog_13_method_98_code 176 = .ok (.ireturn, 1) := by decide +kernel
def jx_Mo_costsTogether (p0 : Option Nat) (p1 : Int32) (p2 : Int32) (p3 : Int32) (p4 : Int32) : sf_M (Int32) :=
  sf_bnd (sf_loop (β := (Int32 × Int32)) (γ := (Int32)) (fun b1 =>
  if b1.2 = p3 then (
  sf_ret (.inr b1.1)
  ) else (
  sf_bnd (sf_gR 11 36 p0) fun x3 =>
  sf_bnd (jx_Mo_nextIn p2 b1.2 p3) fun x4 =>
  sf_bnd (jx_Mo_pairAt b1.2 x4) fun x5 =>
  sf_bnd (sf_aI 0 x3 x5) fun x6 =>
  sf_bnd (sf_ret ((b1.1 + x6))) fun y7 =>
  sf_bnd (jx_Mo_nextIn p2 b1.2 p3) fun x8 =>
  sf_ret (.inl (y7, x8))
  )
  ) sf_fuel ((0 : Int32), p4)) (fun e9 =>
  sf_bnd (sf_loop (β := (Int32 × Int32)) (γ := (Int32)) (fun b10 =>
  if b10.2 = p4 then (
  sf_ret (.inr b10.1)
  ) else (
  sf_bnd (jx_Mo_nextIn p1 b10.2 p4) fun x12 =>
  sf_bnd (α := (Int32)) (
  sf_or (α := (Int32)) (β := (Unit)) (
  sf_or (α := ((Int32) ⊕ (Unit))) (β := (Unit)) (
  if x12 = p4 then (
  sf_ret (.inr ())
  ) else (
  sf_bnd (jx_Mo_isIn p2 x12) fun x14 =>
  if x14 = 0 then (
  sf_ret (.inl (.inr ()))
  ) else (
  sf_ret (.inr ())
  )
  )
  ) (fun v16 =>
  sf_bnd (jx_Mo_nextIn p2 x12 p3) fun x17 =>
  if x17 = b10.2 then (
  sf_ret (.inl (1 : Int32))
  ) else (
  sf_ret (.inr ())
  )
  )
  ) (fun v19 =>
  sf_ret (0 : Int32)
  )
  ) (fun v20 =>
  sf_bnd (sf_gR 11 35 p0) fun x21 =>
  sf_bnd (jx_Mo_pairAt b10.2 x12) fun x22 =>
  sf_bnd (sf_aI 0 x21 x22) fun x23 =>
  sf_bnd (α := (Int32)) (
  if v20 = 0 then (
  sf_ret x23
  ) else (
  sf_bnd (sf_gR 11 37 p0) fun x25 =>
  sf_bnd (jx_Mo_pairAt b10.2 x12) fun x26 =>
  sf_bnd (sf_aI 0 x25 x26) fun x27 =>
  sf_bnd (sf_gR 11 36 p0) fun x28 =>
  sf_bnd (jx_Mo_pairAt x12 b10.2) fun x29 =>
  sf_bnd (sf_aI 0 x28 x29) fun x30 =>
  sf_bnd (jx_Mo_lesser x23 (x27 - x30)) fun x31 =>
  sf_ret x31
  )
  ) (fun v32 =>
  sf_bnd (sf_ret ((b10.1 + v32))) fun y33 =>
  sf_bnd (jx_Mo_nextIn p1 b10.2 p4) fun x34 =>
  sf_ret (.inl (y33, x34))
  )
  )
  )
  ) sf_fuel (e9, p3)) (fun e35 =>
  sf_ret e35
  )
  )
set_option maxRecDepth 20000 in
set_option maxHeartbeats 4000000 in
theorem ok_Mo_costsTogether (p0 : Option Nat) (p1 : Int32) (p2 : Int32) (p3 : Int32) (p4 : Int32) : sf_Ok ({ cls := "SplitFaresModel", name := "costsTogether", desc := "(IIII)I" } : Jvm.MethodName) prog_13_method_98_code 10 (some .int) 2 [sf_rv p0, .int p1, .int p2, .int p3, .int p4] (jx_Mo_costsTogether p0 p1 p2 p3 p4) (fun r => some (.int r)) := by
  refine sf_Ok.of (env := [some (sf_rv p0), some (.int p1), some (.int p2), some (.int p3), some (.int p4), none, none, none, none, none]) (plainFor_of_name (by decide)) [false, false, false, false, false] (fun G => ⟨pk_r, pk_i, pk_i, pk_i, pk_i, trivial⟩) (Nat.le_of_ble_eq_true rfl) rfl (fun X => ?_)
  unfold jx_Mo_costsTogether
  refine fp_iconst (v := (0 : Int32)) dd_Mo_costsTogether_0 (by decide) (fr_pc (pc' := 1) rfl ?_)
  refine fp_istore (i := 5) dd_Mo_costsTogether_1 (Nat.le_of_ble_eq_true rfl) (fun _ => c1_i rfl) (fr_to (pc' := 3) (env' := [some (sf_rv p0), some (.int p1), some (.int p2), some (.int p3), some (.int p4), some (.int (0 : Int32)), none, none, none, none]) (stk' := []) rfl rfl rfl ?_)
  refine fp_iload (i := 4) (x := p4) dd_Mo_costsTogether_3 rfl (fr_pc (pc' := 5) rfl ?_)
  refine fp_istore (i := 6) dd_Mo_costsTogether_5 (Nat.le_of_ble_eq_true rfl) (fun _ => c1_i rfl) (fr_to (pc' := 7) (env' := [some (sf_rv p0), some (.int p1), some (.int p2), some (.int p3), some (.int p4), some (.int (0 : Int32)), some (.int p4), none, none, none]) (stk' := []) rfl rfl rfl ?_)
  refine fr_to (pc' := 7) (env' := [some (sf_rv p0), some (.int p1), some (.int p2), some (.int p3), some (.int p4), some (.int (0 : Int32)), some (.int p4), none, none, none]) (stk' := []) rfl rfl rfl ?_
  refine fr_bnd (l1 := (fun (e9 : (Int32)) => sf_p 47 [some (sf_rv p0), some (.int p1), some (.int p2), some (.int p3), some (.int p4), some (.int e9), none, none, none, none] [])) (fr_loop (Lb := (fun (b1 : (Int32 × Int32)) => sf_p 7 [some (sf_rv p0), some (.int p1), some (.int p2), some (.int p3), some (.int p4), some (.int b1.1), some (.int b1.2), none, none, none] [])) (fun b1 => ?_) _ _) (fun e9 => ?_)
  · refine fp_iload (i := 6) (x := b1.2) dd_Mo_costsTogether_7 rfl (fr_pc (pc' := 9) rfl ?_)
    refine fp_iload_n (i := 3) (x := p3) dd_Mo_costsTogether_9 rfl rfl (fr_pc (pc' := 10) rfl ?_)
    refine fr_icmp_eq (tgt := 47) dd_Mo_costsTogether_10 rfl (fun _ => ?_) (fun _ => ?_)
    · refine fr_wk [true, true, true, true, true, true, false, false, false, false] ?_
      exact fr_ret rfl
    · refine fr_pc (pc' := 13) rfl ?_
      refine fp_iload (i := 5) (x := b1.1) dd_Mo_costsTogether_13 rfl (fr_pc (pc' := 15) rfl ?_)
      refine fp_aload_n (i := 0) (r := p0) dd_Mo_costsTogether_15 rfl rfl (fr_pc (pc' := 16) rfl ?_)
      refine fr_gR cl_11 36 (by decide) rfl sw_1108 dd_Mo_costsTogether_16 (fun x3 => fr_pc (pc' := 19) rfl ?_)
      refine fp_iload (i := 6) (x := b1.2) dd_Mo_costsTogether_19 rfl (fr_pc (pc' := 21) rfl ?_)
      refine fp_iload_n (i := 2) (x := p2) dd_Mo_costsTogether_21 rfl rfl (fr_pc (pc' := 22) rfl ?_)
      refine fp_iload (i := 6) (x := b1.2) dd_Mo_costsTogether_22 rfl (fr_pc (pc' := 24) rfl ?_)
      refine fp_iload_n (i := 3) (x := p3) dd_Mo_costsTogether_24 rfl rfl (fr_pc (pc' := 25) rfl ?_)
      refine fr_callS (stk := [.int b1.2, sf_rv x3, .int b1.1]) (ok_Mo_nextIn p2 b1.2 p3) mt_Mo_nextIn rfl rfl sw_1589 sw_1590 (by decide) (Nat.le_of_ble_eq_true rfl) dd_Mo_costsTogether_25 (fun x4 => fr_to (pc' := 28) (env' := [some (sf_rv p0), some (.int p1), some (.int p2), some (.int p3), some (.int p4), some (.int b1.1), some (.int b1.2), none, none, none]) (stk' := [.int x4, .int b1.2, sf_rv x3, .int b1.1]) rfl rfl rfl ?_)
      refine fr_callS (stk := [sf_rv x3, .int b1.1]) (ok_Mo_pairAt b1.2 x4) mt_Mo_pairAt rfl rfl sw_1291 sw_1292 (by decide) (Nat.le_of_ble_eq_true rfl) dd_Mo_costsTogether_28 (fun x5 => fr_to (pc' := 31) (env' := [some (sf_rv p0), some (.int p1), some (.int p2), some (.int p3), some (.int p4), some (.int b1.1), some (.int b1.2), none, none, none]) (stk' := [.int x5, sf_rv x3, .int b1.1]) rfl rfl rfl ?_)
      refine fr_aI0 dd_Mo_costsTogether_31 (fun x6 => fr_pc (pc' := 32) rfl ?_)
      refine fp_iadd dd_Mo_costsTogether_32 (fr_pc (pc' := 33) rfl ?_)
      refine fr_nistore (i := 5) dd_Mo_costsTogether_33 (Nat.le_of_ble_eq_true rfl) (fun _ => c1_i rfl) (fun y7 => fr_to (pc' := 35) (env' := [some (sf_rv p0), some (.int p1), some (.int p2), some (.int p3), some (.int p4), some (.int y7), some (.int b1.2), none, none, none]) (stk' := []) rfl rfl rfl ?_)
      refine fp_iload_n (i := 2) (x := p2) dd_Mo_costsTogether_35 rfl rfl (fr_pc (pc' := 36) rfl ?_)
      refine fp_iload (i := 6) (x := b1.2) dd_Mo_costsTogether_36 rfl (fr_pc (pc' := 38) rfl ?_)
      refine fp_iload_n (i := 3) (x := p3) dd_Mo_costsTogether_38 rfl rfl (fr_pc (pc' := 39) rfl ?_)
      refine fr_callS (stk := []) (ok_Mo_nextIn p2 b1.2 p3) mt_Mo_nextIn rfl rfl sw_1589 sw_1590 (by decide) (Nat.le_of_ble_eq_true rfl) dd_Mo_costsTogether_39 (fun x8 => fr_to (pc' := 42) (env' := [some (sf_rv p0), some (.int p1), some (.int p2), some (.int p3), some (.int p4), some (.int y7), some (.int b1.2), none, none, none]) (stk' := [.int x8]) rfl rfl rfl ?_)
      refine fp_istore (i := 6) dd_Mo_costsTogether_42 (Nat.le_of_ble_eq_true rfl) (fun _ => c1_i rfl) (fr_to (pc' := 44) (env' := [some (sf_rv p0), some (.int p1), some (.int p2), some (.int p3), some (.int p4), some (.int y7), some (.int x8), none, none, none]) (stk' := []) rfl rfl rfl ?_)
      refine fp_goto (tgt := 7) dd_Mo_costsTogether_44 rfl ?_
      exact fr_ret rfl
  · refine fp_iload_n (i := 3) (x := p3) dd_Mo_costsTogether_47 rfl rfl (fr_pc (pc' := 48) rfl ?_)
    refine fp_istore (i := 6) dd_Mo_costsTogether_48 (Nat.le_of_ble_eq_true rfl) (fun _ => c1_i rfl) (fr_to (pc' := 50) (env' := [some (sf_rv p0), some (.int p1), some (.int p2), some (.int p3), some (.int p4), some (.int e9), some (.int p3), none, none, none]) (stk' := []) rfl rfl rfl ?_)
    refine fr_to (pc' := 50) (env' := [some (sf_rv p0), some (.int p1), some (.int p2), some (.int p3), some (.int p4), some (.int e9), some (.int p3), none, none, none]) (stk' := []) rfl rfl rfl ?_
    refine fr_bnd (l1 := (fun (e35 : (Int32)) => sf_p 174 [some (sf_rv p0), some (.int p1), some (.int p2), some (.int p3), some (.int p4), some (.int e35), none, none, none, none] [])) (fr_loop (Lb := (fun (b10 : (Int32 × Int32)) => sf_p 50 [some (sf_rv p0), some (.int p1), some (.int p2), some (.int p3), some (.int p4), some (.int b10.1), some (.int b10.2), none, none, none] [])) (fun b10 => ?_) _ _) (fun e35 => ?_)
    · refine fp_iload (i := 6) (x := b10.2) dd_Mo_costsTogether_50 rfl (fr_pc (pc' := 52) rfl ?_)
      refine fp_iload (i := 4) (x := p4) dd_Mo_costsTogether_52 rfl (fr_pc (pc' := 54) rfl ?_)
      refine fr_icmp_eq (tgt := 174) dd_Mo_costsTogether_54 rfl (fun _ => ?_) (fun _ => ?_)
      · refine fr_wk [true, true, true, true, true, true, false, false, false, false] ?_
        exact fr_ret rfl
      · refine fr_pc (pc' := 57) rfl ?_
        refine fp_iload_n (i := 1) (x := p1) dd_Mo_costsTogether_57 rfl rfl (fr_pc (pc' := 58) rfl ?_)
        refine fp_iload (i := 6) (x := b10.2) dd_Mo_costsTogether_58 rfl (fr_pc (pc' := 60) rfl ?_)
        refine fp_iload (i := 4) (x := p4) dd_Mo_costsTogether_60 rfl (fr_pc (pc' := 62) rfl ?_)
        refine fr_callS (stk := []) (ok_Mo_nextIn p1 b10.2 p4) mt_Mo_nextIn rfl rfl sw_1589 sw_1590 (by decide) (Nat.le_of_ble_eq_true rfl) dd_Mo_costsTogether_62 (fun x12 => fr_to (pc' := 65) (env' := [some (sf_rv p0), some (.int p1), some (.int p2), some (.int p3), some (.int p4), some (.int b10.1), some (.int b10.2), none, none, none]) (stk' := [.int x12]) rfl rfl rfl ?_)
        refine fp_istore (i := 7) dd_Mo_costsTogether_65 (Nat.le_of_ble_eq_true rfl) (fun _ => c1_i rfl) (fr_to (pc' := 67) (env' := [some (sf_rv p0), some (.int p1), some (.int p2), some (.int p3), some (.int p4), some (.int b10.1), some (.int b10.2), some (.int x12), none, none]) (stk' := []) rfl rfl rfl ?_)
        refine fp_iload (i := 7) (x := x12) dd_Mo_costsTogether_67 rfl (fr_pc (pc' := 69) rfl ?_)
        refine fp_iload (i := 4) (x := p4) dd_Mo_costsTogether_69 rfl (fr_pc (pc' := 71) rfl ?_)
        refine fr_bnd (l1 := (fun (v20 : (Int32)) => sf_p 100 [some (sf_rv p0), some (.int p1), some (.int p2), some (.int p3), some (.int p4), some (.int b10.1), some (.int b10.2), some (.int x12), none, none] [.int v20])) ?_ (fun v20 => ?_)
        · refine fr_or (l1 := (fun (v19 : (Unit)) => sf_p 99 [some (sf_rv p0), some (.int p1), some (.int p2), some (.int p3), some (.int p4), some (.int b10.1), some (.int b10.2), some (.int x12), none, none] [])) ?_ (fun v19 => ?_)
          · refine fr_or (l1 := (fun (v16 : (Unit)) => sf_p 83 [some (sf_rv p0), some (.int p1), some (.int p2), some (.int p3), some (.int p4), some (.int b10.1), some (.int b10.2), some (.int x12), none, none] [])) ?_ (fun v16 => ?_)
            · refine fr_icmp_eq (tgt := 83) dd_Mo_costsTogether_71 rfl (fun _ => ?_) (fun _ => ?_)
              · exact fr_ret rfl
              · refine fr_pc (pc' := 74) rfl ?_
                refine fp_iload_n (i := 2) (x := p2) dd_Mo_costsTogether_74 rfl rfl (fr_pc (pc' := 75) rfl ?_)
                refine fp_iload (i := 7) (x := x12) dd_Mo_costsTogether_75 rfl (fr_pc (pc' := 77) rfl ?_)
                refine fr_callS (stk := []) (ok_Mo_isIn p2 x12) mt_Mo_isIn rfl rfl sw_1520 sw_1521 (by decide) (Nat.le_of_ble_eq_true rfl) dd_Mo_costsTogether_77 (fun x14 => fr_to (pc' := 80) (env' := [some (sf_rv p0), some (.int p1), some (.int p2), some (.int p3), some (.int p4), some (.int b10.1), some (.int b10.2), some (.int x12), none, none]) (stk' := [.int x14]) rfl rfl rfl ?_)
                refine fr_if_eq (tgt := 99) dd_Mo_costsTogether_80 rfl (fun _ => ?_) (fun _ => ?_)
                · exact fr_ret rfl
                · refine fr_pc (pc' := 83) rfl ?_
                  exact fr_ret rfl
            · refine fp_iload_n (i := 2) (x := p2) dd_Mo_costsTogether_83 rfl rfl (fr_pc (pc' := 84) rfl ?_)
              refine fp_iload (i := 7) (x := x12) dd_Mo_costsTogether_84 rfl (fr_pc (pc' := 86) rfl ?_)
              refine fp_iload_n (i := 3) (x := p3) dd_Mo_costsTogether_86 rfl rfl (fr_pc (pc' := 87) rfl ?_)
              refine fr_callS (stk := []) (ok_Mo_nextIn p2 x12 p3) mt_Mo_nextIn rfl rfl sw_1589 sw_1590 (by decide) (Nat.le_of_ble_eq_true rfl) dd_Mo_costsTogether_87 (fun x17 => fr_to (pc' := 90) (env' := [some (sf_rv p0), some (.int p1), some (.int p2), some (.int p3), some (.int p4), some (.int b10.1), some (.int b10.2), some (.int x12), none, none]) (stk' := [.int x17]) rfl rfl rfl ?_)
              refine fp_iload (i := 6) (x := b10.2) dd_Mo_costsTogether_90 rfl (fr_pc (pc' := 92) rfl ?_)
              refine fr_icmp_ne (tgt := 99) dd_Mo_costsTogether_92 rfl (fun _ => ?_) (fun _ => ?_)
              · refine fr_pc (pc' := 95) rfl ?_
                refine fp_iconst (v := (1 : Int32)) dd_Mo_costsTogether_95 (by decide) (fr_pc (pc' := 96) rfl ?_)
                refine fp_goto (tgt := 100) dd_Mo_costsTogether_96 rfl ?_
                exact fr_ret rfl
              · exact fr_ret rfl
          · refine fp_iconst (v := (0 : Int32)) dd_Mo_costsTogether_99 (by decide) (fr_pc (pc' := 100) rfl ?_)
            exact fr_ret rfl
        · refine fp_istore (i := 8) dd_Mo_costsTogether_100 (Nat.le_of_ble_eq_true rfl) (fun _ => c1_i rfl) (fr_to (pc' := 102) (env' := [some (sf_rv p0), some (.int p1), some (.int p2), some (.int p3), some (.int p4), some (.int b10.1), some (.int b10.2), some (.int x12), some (.int v20), none]) (stk' := []) rfl rfl rfl ?_)
          refine fp_aload_n (i := 0) (r := p0) dd_Mo_costsTogether_102 rfl rfl (fr_pc (pc' := 103) rfl ?_)
          refine fr_gR cl_11 35 (by decide) rfl sw_1107 dd_Mo_costsTogether_103 (fun x21 => fr_pc (pc' := 106) rfl ?_)
          refine fp_iload (i := 6) (x := b10.2) dd_Mo_costsTogether_106 rfl (fr_pc (pc' := 108) rfl ?_)
          refine fp_iload (i := 7) (x := x12) dd_Mo_costsTogether_108 rfl (fr_pc (pc' := 110) rfl ?_)
          refine fr_callS (stk := [sf_rv x21]) (ok_Mo_pairAt b10.2 x12) mt_Mo_pairAt rfl rfl sw_1291 sw_1292 (by decide) (Nat.le_of_ble_eq_true rfl) dd_Mo_costsTogether_110 (fun x22 => fr_to (pc' := 113) (env' := [some (sf_rv p0), some (.int p1), some (.int p2), some (.int p3), some (.int p4), some (.int b10.1), some (.int b10.2), some (.int x12), some (.int v20), none]) (stk' := [.int x22, sf_rv x21]) rfl rfl rfl ?_)
          refine fr_aI0 dd_Mo_costsTogether_113 (fun x23 => fr_pc (pc' := 114) rfl ?_)
          refine fp_istore (i := 9) dd_Mo_costsTogether_114 (Nat.le_of_ble_eq_true rfl) (fun _ => c1_i rfl) (fr_to (pc' := 116) (env' := [some (sf_rv p0), some (.int p1), some (.int p2), some (.int p3), some (.int p4), some (.int b10.1), some (.int b10.2), some (.int x12), some (.int v20), some (.int x23)]) (stk' := []) rfl rfl rfl ?_)
          refine fp_iload (i := 5) (x := b10.1) dd_Mo_costsTogether_116 rfl (fr_pc (pc' := 118) rfl ?_)
          refine fp_iload (i := 8) (x := v20) dd_Mo_costsTogether_118 rfl (fr_pc (pc' := 120) rfl ?_)
          refine fr_bnd (l1 := (fun (v32 : (Int32)) => sf_p 158 [some (sf_rv p0), some (.int p1), some (.int p2), some (.int p3), some (.int p4), some (.int b10.1), some (.int b10.2), some (.int x12), some (.int v20), some (.int x23)] [.int v32, .int b10.1])) ?_ (fun v32 => ?_)
          · refine fr_if_eq (tgt := 156) dd_Mo_costsTogether_120 rfl (fun _ => ?_) (fun _ => ?_)
            · refine fp_iload (i := 9) (x := x23) dd_Mo_costsTogether_156 rfl (fr_pc (pc' := 158) rfl ?_)
              exact fr_ret rfl
            · refine fr_pc (pc' := 123) rfl ?_
              refine fp_iload (i := 9) (x := x23) dd_Mo_costsTogether_123 rfl (fr_pc (pc' := 125) rfl ?_)
              refine fp_aload_n (i := 0) (r := p0) dd_Mo_costsTogether_125 rfl rfl (fr_pc (pc' := 126) rfl ?_)
              refine fr_gR cl_11 37 (by decide) rfl sw_1109 dd_Mo_costsTogether_126 (fun x25 => fr_pc (pc' := 129) rfl ?_)
              refine fp_iload (i := 6) (x := b10.2) dd_Mo_costsTogether_129 rfl (fr_pc (pc' := 131) rfl ?_)
              refine fp_iload (i := 7) (x := x12) dd_Mo_costsTogether_131 rfl (fr_pc (pc' := 133) rfl ?_)
              refine fr_callS (stk := [sf_rv x25, .int x23, .int b10.1]) (ok_Mo_pairAt b10.2 x12) mt_Mo_pairAt rfl rfl sw_1291 sw_1292 (by decide) (Nat.le_of_ble_eq_true rfl) dd_Mo_costsTogether_133 (fun x26 => fr_to (pc' := 136) (env' := [some (sf_rv p0), some (.int p1), some (.int p2), some (.int p3), some (.int p4), some (.int b10.1), some (.int b10.2), some (.int x12), some (.int v20), some (.int x23)]) (stk' := [.int x26, sf_rv x25, .int x23, .int b10.1]) rfl rfl rfl ?_)
              refine fr_aI0 dd_Mo_costsTogether_136 (fun x27 => fr_pc (pc' := 137) rfl ?_)
              refine fp_aload_n (i := 0) (r := p0) dd_Mo_costsTogether_137 rfl rfl (fr_pc (pc' := 138) rfl ?_)
              refine fr_gR cl_11 36 (by decide) rfl sw_1108 dd_Mo_costsTogether_138 (fun x28 => fr_pc (pc' := 141) rfl ?_)
              refine fp_iload (i := 7) (x := x12) dd_Mo_costsTogether_141 rfl (fr_pc (pc' := 143) rfl ?_)
              refine fp_iload (i := 6) (x := b10.2) dd_Mo_costsTogether_143 rfl (fr_pc (pc' := 145) rfl ?_)
              refine fr_callS (stk := [sf_rv x28, .int x27, .int x23, .int b10.1]) (ok_Mo_pairAt x12 b10.2) mt_Mo_pairAt rfl rfl sw_1291 sw_1292 (by decide) (Nat.le_of_ble_eq_true rfl) dd_Mo_costsTogether_145 (fun x29 => fr_to (pc' := 148) (env' := [some (sf_rv p0), some (.int p1), some (.int p2), some (.int p3), some (.int p4), some (.int b10.1), some (.int b10.2), some (.int x12), some (.int v20), some (.int x23)]) (stk' := [.int x29, sf_rv x28, .int x27, .int x23, .int b10.1]) rfl rfl rfl ?_)
              refine fr_aI0 dd_Mo_costsTogether_148 (fun x30 => fr_pc (pc' := 149) rfl ?_)
              refine fp_isub dd_Mo_costsTogether_149 (fr_pc (pc' := 150) rfl ?_)
              refine fr_callS (stk := [.int b10.1]) (ok_Mo_lesser x23 (x27 - x30)) mt_Mo_lesser rfl rfl sw_1540 sw_1541 (by decide) (Nat.le_of_ble_eq_true rfl) dd_Mo_costsTogether_150 (fun x31 => fr_to (pc' := 153) (env' := [some (sf_rv p0), some (.int p1), some (.int p2), some (.int p3), some (.int p4), some (.int b10.1), some (.int b10.2), some (.int x12), some (.int v20), some (.int x23)]) (stk' := [.int x31, .int b10.1]) rfl rfl rfl ?_)
              refine fp_goto (tgt := 158) dd_Mo_costsTogether_153 rfl ?_
              exact fr_ret rfl
          · refine fp_iadd dd_Mo_costsTogether_158 (fr_pc (pc' := 159) rfl ?_)
            refine fr_nistore (i := 5) dd_Mo_costsTogether_159 (Nat.le_of_ble_eq_true rfl) (fun _ => c1_i rfl) (fun y33 => fr_to (pc' := 161) (env' := [some (sf_rv p0), some (.int p1), some (.int p2), some (.int p3), some (.int p4), some (.int y33), some (.int b10.2), some (.int x12), some (.int v20), some (.int x23)]) (stk' := []) rfl rfl rfl ?_)
            refine fp_iload_n (i := 1) (x := p1) dd_Mo_costsTogether_161 rfl rfl (fr_pc (pc' := 162) rfl ?_)
            refine fp_iload (i := 6) (x := b10.2) dd_Mo_costsTogether_162 rfl (fr_pc (pc' := 164) rfl ?_)
            refine fp_iload (i := 4) (x := p4) dd_Mo_costsTogether_164 rfl (fr_pc (pc' := 166) rfl ?_)
            refine fr_callS (stk := []) (ok_Mo_nextIn p1 b10.2 p4) mt_Mo_nextIn rfl rfl sw_1589 sw_1590 (by decide) (Nat.le_of_ble_eq_true rfl) dd_Mo_costsTogether_166 (fun x34 => fr_to (pc' := 169) (env' := [some (sf_rv p0), some (.int p1), some (.int p2), some (.int p3), some (.int p4), some (.int y33), some (.int b10.2), some (.int x12), some (.int v20), some (.int x23)]) (stk' := [.int x34]) rfl rfl rfl ?_)
            refine fp_istore (i := 6) dd_Mo_costsTogether_169 (Nat.le_of_ble_eq_true rfl) (fun _ => c1_i rfl) (fr_to (pc' := 171) (env' := [some (sf_rv p0), some (.int p1), some (.int p2), some (.int p3), some (.int p4), some (.int y33), some (.int x34), some (.int x12), some (.int v20), some (.int x23)]) (stk' := []) rfl rfl rfl ?_)
            refine fp_goto (tgt := 50) dd_Mo_costsTogether_171 rfl ?_
            refine fr_wk [true, true, true, true, true, true, true, false, false, false] ?_
            exact fr_ret rfl
    · refine fp_iload (i := 5) (x := e35) dd_Mo_costsTogether_174 rfl (fr_pc (pc' := 176) rfl ?_)
      exact fr_iret (v := e35) rfl rfl dd_Mo_costsTogether_176
