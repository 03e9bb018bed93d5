/-! SplitFaresModel: its methods as plain functions, and that the bytecode runs them (printed by program). -/
theorem mt_Mo_of : sf_Mt ({ cls := "SplitFaresModel", name := "of", desc := "(II)I" } : Jvm.MethodName) prog_13_method_21_code 3 (some .int) 2 := ⟨sw_1273, sw_12, ⟨by decide, by decide, by decide +kernel⟩, by decide⟩
theorem dd_Mo_of_0 : decode prog_13_method_21_code 0 = .ok (.aload_n 0, 1) := by decide +kernel
theorem dd_Mo_of_1 : decode prog_13_method_21_code 1 = .ok (.iload_n 1, 1) := by decide +kernel
theorem dd_Mo_of_2 : decode prog_13_method_21_code 2 = .ok (.invokevirtual 132, 3) := by decide +kernel
theorem dd_Mo_of_5 : decode prog_13_method_21_code 5 = .ok (.ifCond .ne 5, 3) := by decide +kernel
theorem dd_Mo_of_8 : decode prog_13_method_21_code 8 = .ok (.iconst (-1), 1) := by decide +kernel
theorem dd_Mo_of_9 : decode prog_13_method_21_code 9 = .ok (.ireturn, 1) := by decide +kernel
theorem dd_Mo_of_10 : decode prog_13_method_21_code 10 = .ok (.iload_n 2, 1) := by decide +kernel
theorem dd_Mo_of_11 : decode prog_13_method_21_code 11 = .ok (.tableswitch 58 0 2 #[25, 36, 47], 25) := by decide +kernel
theorem dd_Mo_of_69 : decode prog_13_method_21_code 69 = .ok (.iconst (-1), 1) := by decide +kernel
theorem dd_Mo_of_70 : decode prog_13_method_21_code 70 = .ok (.ireturn, 1) := by decide +kernel
theorem dd_Mo_of_58 : decode prog_13_method_21_code 58 = .ok (.aload_n 0, 1) := by decide +kernel
theorem dd_Mo_of_59 : decode prog_13_method_21_code 59 = .ok (.getfield 32, 3) := by decide +kernel
theorem dd_Mo_of_62 : decode prog_13_method_21_code 62 = .ok (.sipush 207, 3) := by decide +kernel
theorem dd_Mo_of_65 : decode prog_13_method_21_code 65 = .ok (.iload_n 1, 1) := by decide +kernel
theorem dd_Mo_of_66 : decode prog_13_method_21_code 66 = .ok (.iadd, 1) := by decide +kernel
theorem dd_Mo_of_67 : decode prog_13_method_21_code 67 = .ok (.iaload, 1) := by decide +kernel
theorem dd_Mo_of_68 : decode prog_13_method_21_code 68 = .ok (.ireturn, 1) := by decide +kernel
theorem dd_Mo_of_47 : decode prog_13_method_21_code 47 = .ok (.aload_n 0, 1) := by decide +kernel
theorem dd_Mo_of_48 : decode prog_13_method_21_code 48 = .ok (.getfield 32, 3) := by decide +kernel
theorem dd_Mo_of_51 : decode prog_13_method_21_code 51 = .ok (.sipush 201, 3) := by decide +kernel
theorem dd_Mo_of_54 : decode prog_13_method_21_code 54 = .ok (.iload_n 1, 1) := by decide +kernel
theorem dd_Mo_of_55 : decode prog_13_method_21_code 55 = .ok (.iadd, 1) := by decide +kernel
theorem dd_Mo_of_56 : decode prog_13_method_21_code 56 = .ok (.iaload, 1) := by decide +kernel
theorem dd_Mo_of_57 : decode prog_13_method_21_code 57 = .ok (.ireturn, 1) := by decide +kernel
theorem dd_Mo_of_36 : decode prog_13_method_21_code 36 = .ok (.aload_n 0, 1) := by decide +kernel
theorem dd_Mo_of_37 : decode prog_13_method_21_code 37 = .ok (.getfield 32, 3) := by decide +kernel
theorem dd_Mo_of_40 : decode prog_13_method_21_code 40 = .ok (.sipush 195, 3) := by decide +kernel
theorem dd_Mo_of_43 : decode prog_13_method_21_code 43 = .ok (.iload_n 1, 1) := by decide +kernel
theorem dd_Mo_of_44 : decode prog_13_method_21_code 44 = .ok (.iadd, 1) := by decide +kernel
theorem dd_Mo_of_45 : decode prog_13_method_21_code 45 = .ok (.iaload, 1) := by decide +kernel
theorem dd_Mo_of_46 : decode prog_13_method_21_code 46 = .ok (.ireturn, 1) := by decide +kernel
def jx_Mo_of (p0 : Option Nat) (p1 : Int32) (p2 : Int32) : sf_M (Int32) :=
  sf_bnd (sf_rc 11 p0 (jx_Mo_isTrain p0 p1)) fun x1 =>
  if x1 = 0 then (
  sf_ret (-1 : Int32)
  ) else (
  if p2 = (0 : Int32) then (
  sf_bnd (sf_gR 11 2 p0) fun x3 =>
  sf_bnd (sf_aI 0 x3 ((195 : Int32) + p1)) fun x4 =>
  sf_ret x4
  ) else (
  if p2 = (1 : Int32) then (
  sf_bnd (sf_gR 11 2 p0) fun x5 =>
  sf_bnd (sf_aI 0 x5 ((201 : Int32) + p1)) fun x6 =>
  sf_ret x6
  ) else (
  if p2 = (2 : Int32) then (
  sf_bnd (sf_gR 11 2 p0) fun x7 =>
  sf_bnd (sf_aI 0 x7 ((207 : Int32) + p1)) fun x8 =>
  sf_ret x8
  ) else (
  sf_ret (-1 : Int32)
  )
  )
  )
  )
set_option maxRecDepth 20000 in
set_option maxHeartbeats 4000000 in
theorem ok_Mo_of (p0 : Option Nat) (p1 : Int32) (p2 : Int32) : sf_Ok ({ cls := "SplitFaresModel", name := "of", desc := "(II)I" } : Jvm.MethodName) prog_13_method_21_code 3 (some .int) 2 [sf_rv p0, .int p1, .int p2] (jx_Mo_of p0 p1 p2) (fun r => some (.int r)) := by
  refine sf_Ok.of (env := [some (sf_rv p0), some (.int p1), some (.int p2)]) (plainFor_of_name (by decide)) [false, false, false] (fun G => ⟨pk_r, pk_i, pk_i, trivial⟩) (Nat.le_of_ble_eq_true rfl) rfl (fun X => ?_)
  unfold jx_Mo_of
  refine fp_aload_n (i := 0) (r := p0) dd_Mo_of_0 rfl rfl (fr_pc (pc' := 1) rfl ?_)
  refine fp_iload_n (i := 1) (x := p1) dd_Mo_of_1 rfl rfl (fr_pc (pc' := 2) rfl ?_)
  refine fr_callV (stk := []) (As := [.int p1]) cl_11 (ok_Mo_isTrain p0 p1) mt_Mo_isTrain rfl rfl sw_1274 sw_1276 sp_31 (by decide) (Nat.le_of_ble_eq_true rfl) dd_Mo_of_2 (fun x1 => fr_to (pc' := 5) (env' := [some (sf_rv p0), some (.int p1), some (.int p2)]) (stk' := [.int x1]) rfl rfl rfl ?_)
  refine fr_if_ne (tgt := 10) dd_Mo_of_5 rfl (fun _ => ?_) (fun _ => ?_)
  · refine fr_pc (pc' := 8) rfl ?_
    refine fp_iconst (v := (-1 : Int32)) dd_Mo_of_8 (by decide) (fr_pc (pc' := 9) rfl ?_)
    exact fr_iret (v := (-1 : Int32)) rfl rfl dd_Mo_of_9
  · refine fp_iload_n (i := 2) (x := p2) dd_Mo_of_10 rfl rfl (fr_pc (pc' := 11) rfl ?_)
    refine fp_tsw (ts := [36, 47, 58]) (t0 := 69) (cs := [((0 : Int32), 36), ((1 : Int32), 47), ((2 : Int32), 58)]) dd_Mo_of_11 (by decide) rfl ?_
    refine fr_sw (fun _ => ?_) (fun _ => ?_)
    · refine fp_aload_n (i := 0) (r := p0) dd_Mo_of_36 rfl rfl (fr_pc (pc' := 37) rfl ?_)
      refine fr_gR cl_11 2 (by decide) rfl sw_1074 dd_Mo_of_37 (fun x3 => fr_pc (pc' := 40) rfl ?_)
      refine fp_sipush (v := (195 : Int32)) dd_Mo_of_40 (by decide) (fr_pc (pc' := 43) rfl ?_)
      refine fp_iload_n (i := 1) (x := p1) dd_Mo_of_43 rfl rfl (fr_pc (pc' := 44) rfl ?_)
      refine fp_iadd dd_Mo_of_44 (fr_pc (pc' := 45) rfl ?_)
      refine fr_aI0 dd_Mo_of_45 (fun x4 => fr_pc (pc' := 46) rfl ?_)
      exact fr_iret (v := x4) rfl rfl dd_Mo_of_46
    · refine fr_sw (fun _ => ?_) (fun _ => ?_)
      · refine fp_aload_n (i := 0) (r := p0) dd_Mo_of_47 rfl rfl (fr_pc (pc' := 48) rfl ?_)
        refine fr_gR cl_11 2 (by decide) rfl sw_1074 dd_Mo_of_48 (fun x5 => fr_pc (pc' := 51) rfl ?_)
        refine fp_sipush (v := (201 : Int32)) dd_Mo_of_51 (by decide) (fr_pc (pc' := 54) rfl ?_)
        refine fp_iload_n (i := 1) (x := p1) dd_Mo_of_54 rfl rfl (fr_pc (pc' := 55) rfl ?_)
        refine fp_iadd dd_Mo_of_55 (fr_pc (pc' := 56) rfl ?_)
        refine fr_aI0 dd_Mo_of_56 (fun x6 => fr_pc (pc' := 57) rfl ?_)
        exact fr_iret (v := x6) rfl rfl dd_Mo_of_57
      · refine fr_sw (fun _ => ?_) (fun _ => ?_)
        · refine fp_aload_n (i := 0) (r := p0) dd_Mo_of_58 rfl rfl (fr_pc (pc' := 59) rfl ?_)
          refine fr_gR cl_11 2 (by decide) rfl sw_1074 dd_Mo_of_59 (fun x7 => fr_pc (pc' := 62) rfl ?_)
          refine fp_sipush (v := (207 : Int32)) dd_Mo_of_62 (by decide) (fr_pc (pc' := 65) rfl ?_)
          refine fp_iload_n (i := 1) (x := p1) dd_Mo_of_65 rfl rfl (fr_pc (pc' := 66) rfl ?_)
          refine fp_iadd dd_Mo_of_66 (fr_pc (pc' := 67) rfl ?_)
          refine fr_aI0 dd_Mo_of_67 (fun x8 => fr_pc (pc' := 68) rfl ?_)
          exact fr_iret (v := x8) rfl rfl dd_Mo_of_68
        · refine fr_pc (pc' := 69) rfl ?_
          refine fp_iconst (v := (-1 : Int32)) dd_Mo_of_69 (by decide) (fr_pc (pc' := 70) rfl ?_)
          exact fr_iret (v := (-1 : Int32)) rfl rfl dd_Mo_of_70
theorem mt_Mo_ticketAt : sf_Mt ({ cls := "SplitFaresModel", name := "ticketAt", desc := "(III)I" } : Jvm.MethodName) prog_13_method_22_code 3 (some .int) 3 := ⟨sw_1290, sw_12, ⟨by decide, by decide, by decide +kernel⟩, by decide⟩
theorem dd_Mo_ticketAt_0 : decode prog_13_method_22_code 0 = .ok (.iconst 0, 1) := by decide +kernel
theorem dd_Mo_ticketAt_1 : decode prog_13_method_22_code 1 = .ok (.bipush 64, 2) := by decide +kernel
theorem dd_Mo_ticketAt_3 : decode prog_13_method_22_code 3 = .ok (.iload_n 0, 1) := by decide +kernel
theorem dd_Mo_ticketAt_4 : decode prog_13_method_22_code 4 = .ok (.imul, 1) := by decide +kernel
theorem dd_Mo_ticketAt_5 : decode prog_13_method_22_code 5 = .ok (.iadd, 1) := by decide +kernel
theorem dd_Mo_ticketAt_6 : decode prog_13_method_22_code 6 = .ok (.iload_n 1, 1) := by decide +kernel
theorem dd_Mo_ticketAt_7 : decode prog_13_method_22_code 7 = .ok (.iload_n 2, 1) := by decide +kernel
theorem dd_Mo_ticketAt_8 : decode prog_13_method_22_code 8 = .ok (.invokestatic 135, 3) := by decide +kernel
theorem dd_Mo_ticketAt_11 : decode prog_13_method_22_code 11 = .ok (.iadd, 1) := by decide +kernel
theorem dd_Mo_ticketAt_12 : decode prog_13_method_22_code 12 = .ok (.ireturn, 1) := by decide +kernel
def jx_Mo_ticketAt (p0 : Int32) (p1 : Int32) (p2 : Int32) : sf_M (Int32) :=
  sf_bnd (jx_Mo_pairAt p1 p2) fun x1 =>
  sf_ret (((0 : Int32) + ((64 : Int32) * p0)) + x1)
set_option maxRecDepth 20000 in
set_option maxHeartbeats 4000000 in
theorem ok_Mo_ticketAt (p0 : Int32) (p1 : Int32) (p2 : Int32) : sf_Ok ({ cls := "SplitFaresModel", name := "ticketAt", desc := "(III)I" } : Jvm.MethodName) prog_13_method_22_code 3 (some .int) 1 [.int p0, .int p1, .int p2] (jx_Mo_ticketAt p0 p1 p2) (fun r => some (.int r)) := by
  refine sf_Ok.of (env := [some (.int p0), some (.int p1), some (.int p2)]) (plainFor_of_name (by decide)) [false, false, false] (fun G => ⟨pk_i, pk_i, pk_i, trivial⟩) (Nat.le_of_ble_eq_true rfl) rfl (fun X => ?_)
  unfold jx_Mo_ticketAt
  refine fp_iconst (v := (0 : Int32)) dd_Mo_ticketAt_0 (by decide) (fr_pc (pc' := 1) rfl ?_)
  refine fp_bipush (v := (64 : Int32)) dd_Mo_ticketAt_1 (by decide) (fr_pc (pc' := 3) rfl ?_)
  refine fp_iload_n (i := 0) (x := p0) dd_Mo_ticketAt_3 rfl rfl (fr_pc (pc' := 4) rfl ?_)
  refine fp_imul dd_Mo_ticketAt_4 (fr_pc (pc' := 5) rfl ?_)
  refine fp_iadd dd_Mo_ticketAt_5 (fr_pc (pc' := 6) rfl ?_)
  refine fp_iload_n (i := 1) (x := p1) dd_Mo_ticketAt_6 rfl rfl (fr_pc (pc' := 7) rfl ?_)
  refine fp_iload_n (i := 2) (x := p2) dd_Mo_ticketAt_7 rfl rfl (fr_pc (pc' := 8) rfl ?_)
  refine fr_callS (stk := [.int ((0 : Int32) + ((64 : Int32) * p0))]) (ok_Mo_pairAt p1 p2) mt_Mo_pairAt rfl rfl sw_1291 sw_1292 (by decide) (Nat.le_of_ble_eq_true rfl) dd_Mo_ticketAt_8 (fun x1 => fr_to (pc' := 11) (env' := [some (.int p0), some (.int p1), some (.int p2)]) (stk' := [.int x1, .int ((0 : Int32) + ((64 : Int32) * p0))]) rfl rfl rfl ?_)
  refine fp_iadd dd_Mo_ticketAt_11 (fr_pc (pc' := 12) rfl ?_)
  exact fr_iret (v := (((0 : Int32) + ((64 : Int32) * p0)) + x1)) rfl rfl dd_Mo_ticketAt_12
theorem mt_Mo_held : sf_Mt ({ cls := "SplitFaresModel", name := "held", desc := "(III)I" } : Jvm.MethodName) prog_13_method_23_code 4 (some .int) 3 := ⟨sw_1281, sw_12, ⟨by decide, by decide, by decide +kernel⟩, by decide⟩
theorem dd_Mo_held_0 : decode prog_13_method_23_code 0 = .ok (.iload_n 1, 1) := by decide +kernel
theorem dd_Mo_held_1 : decode prog_13_method_23_code 1 = .ok (.iconst 0, 1) := by decide +kernel
theorem dd_Mo_held_2 : decode prog_13_method_23_code 2 = .ok (.iconst 2, 1) := by decide +kernel
theorem dd_Mo_held_3 : decode prog_13_method_23_code 3 = .ok (.invokestatic 18, 3) := by decide +kernel
theorem dd_Mo_held_6 : decode prog_13_method_23_code 6 = .ok (.ifCond .eq 25, 3) := by decide +kernel
theorem dd_Mo_held_9 : decode prog_13_method_23_code 9 = .ok (.iload_n 2, 1) := by decide +kernel
theorem dd_Mo_held_10 : decode prog_13_method_23_code 10 = .ok (.iload_n 3, 1) := by decide +kernel
theorem dd_Mo_held_11 : decode prog_13_method_23_code 11 = .ok (.invokestatic 139, 3) := by decide +kernel
theorem dd_Mo_held_14 : decode prog_13_method_23_code 14 = .ok (.ifCond .eq 17, 3) := by decide +kernel
theorem dd_Mo_held_17 : decode prog_13_method_23_code 17 = .ok (.aload_n 0, 1) := by decide +kernel
theorem dd_Mo_held_18 : decode prog_13_method_23_code 18 = .ok (.getfield 32, 3) := by decide +kernel
theorem dd_Mo_held_21 : decode prog_13_method_23_code 21 = .ok (.iload_n 1, 1) := by decide +kernel
theorem dd_Mo_held_22 : decode prog_13_method_23_code 22 = .ok (.iload_n 2, 1) := by decide +kernel
theorem dd_Mo_held_23 : decode prog_13_method_23_code 23 = .ok (.iload_n 3, 1) := by decide +kernel
theorem dd_Mo_held_24 : decode prog_13_method_23_code 24 = .ok (.invokestatic 143, 3) := by decide +kernel
theorem dd_Mo_held_27 : decode prog_13_method_23_code 27 = .ok (.iaload, 1) := by decide +kernel
theorem dd_Mo_held_28 : decode prog_13_method_23_code 28 = .ok (.goto 4, 3) := by decide +kernel
theorem dd_Mo_held_31 : decode prog_13_method_23_code 31 = .ok (.iconst (-1), 1) := by decide +kernel
theorem dd_Mo_held_32 : decode prog_13_method_23_code 32 = .ok (.ireturn, 1) := by decide +kernel
def jx_Mo_held (p0 : Option Nat) (p1 : Int32) (p2 : Int32) (p3 : Int32) : sf_M (Int32) :=
  sf_bnd (jx_Mo_lies p1 (0 : Int32) (2 : Int32)) fun x1 =>
  if x1 = 0 then (
  sf_ret (-1 : Int32)
  ) else (
  sf_bnd (jx_Mo_areTwo p2 p3) fun x3 =>
  if x3 = 0 then (
  sf_ret (-1 : Int32)
  ) else (
  sf_bnd (sf_gR 11 2 p0) fun x5 =>
  sf_bnd (jx_Mo_ticketAt p1 p2 p3) fun x6 =>
  sf_bnd (sf_aI 0 x5 x6) fun x7 =>
  sf_ret x7
  )
  )
set_option maxRecDepth 20000 in
set_option maxHeartbeats 4000000 in
theorem ok_Mo_held (p0 : Option Nat) (p1 : Int32) (p2 : Int32) (p3 : Int32) : sf_Ok ({ cls := "SplitFaresModel", name := "held", desc := "(III)I" } : Jvm.MethodName) prog_13_method_23_code 4 (some .int) 3 [sf_rv p0, .int p1, .int p2, .int p3] (jx_Mo_held p0 p1 p2 p3) (fun r => some (.int r)) := by
  refine sf_Ok.of (env := [some (sf_rv p0), some (.int p1), some (.int p2), some (.int p3)]) (plainFor_of_name (by decide)) [false, false, false, false] (fun G => ⟨pk_r, pk_i, pk_i, pk_i, trivial⟩) (Nat.le_of_ble_eq_true rfl) rfl (fun X => ?_)
  unfold jx_Mo_held
  refine fp_iload_n (i := 1) (x := p1) dd_Mo_held_0 rfl rfl (fr_pc (pc' := 1) rfl ?_)
  refine fp_iconst (v := (0 : Int32)) dd_Mo_held_1 (by decide) (fr_pc (pc' := 2) rfl ?_)
  refine fp_iconst (v := (2 : Int32)) dd_Mo_held_2 (by decide) (fr_pc (pc' := 3) rfl ?_)
  refine fr_callS (stk := []) (ok_Mo_lies p1 (0 : Int32) (2 : Int32)) mt_Mo_lies rfl rfl sw_1237 sw_1238 (by decide) (Nat.le_of_ble_eq_true rfl) dd_Mo_held_3 (fun x1 => fr_to (pc' := 6) (env' := [some (sf_rv p0), some (.int p1), some (.int p2), some (.int p3)]) (stk' := [.int x1]) rfl rfl rfl ?_)
  refine fr_if_eq (tgt := 31) dd_Mo_held_6 rfl (fun _ => ?_) (fun _ => ?_)
  · refine fp_iconst (v := (-1 : Int32)) dd_Mo_held_31 (by decide) (fr_pc (pc' := 32) rfl ?_)
    exact fr_iret (v := (-1 : Int32)) rfl rfl dd_Mo_held_32
  · refine fr_pc (pc' := 9) rfl ?_
    refine fp_iload_n (i := 2) (x := p2) dd_Mo_held_9 rfl rfl (fr_pc (pc' := 10) rfl ?_)
    refine fp_iload_n (i := 3) (x := p3) dd_Mo_held_10 rfl rfl (fr_pc (pc' := 11) rfl ?_)
    refine fr_callS (stk := []) (ok_Mo_areTwo p2 p3) mt_Mo_areTwo rfl rfl sw_1282 sw_1283 (by decide) (Nat.le_of_ble_eq_true rfl) dd_Mo_held_11 (fun x3 => fr_to (pc' := 14) (env' := [some (sf_rv p0), some (.int p1), some (.int p2), some (.int p3)]) (stk' := [.int x3]) rfl rfl rfl ?_)
    refine fr_if_eq (tgt := 31) dd_Mo_held_14 rfl (fun _ => ?_) (fun _ => ?_)
    · refine fp_iconst (v := (-1 : Int32)) dd_Mo_held_31 (by decide) (fr_pc (pc' := 32) rfl ?_)
      exact fr_iret (v := (-1 : Int32)) rfl rfl dd_Mo_held_32
    · refine fr_pc (pc' := 17) rfl ?_
      refine fp_aload_n (i := 0) (r := p0) dd_Mo_held_17 rfl rfl (fr_pc (pc' := 18) rfl ?_)
      refine fr_gR cl_11 2 (by decide) rfl sw_1074 dd_Mo_held_18 (fun x5 => fr_pc (pc' := 21) rfl ?_)
      refine fp_iload_n (i := 1) (x := p1) dd_Mo_held_21 rfl rfl (fr_pc (pc' := 22) rfl ?_)
      refine fp_iload_n (i := 2) (x := p2) dd_Mo_held_22 rfl rfl (fr_pc (pc' := 23) rfl ?_)
      refine fp_iload_n (i := 3) (x := p3) dd_Mo_held_23 rfl rfl (fr_pc (pc' := 24) rfl ?_)
      refine fr_callS (stk := [sf_rv x5]) (ok_Mo_ticketAt p1 p2 p3) mt_Mo_ticketAt rfl rfl sw_1288 sw_1289 (by decide) (Nat.le_of_ble_eq_true rfl) dd_Mo_held_24 (fun x6 => fr_to (pc' := 27) (env' := [some (sf_rv p0), some (.int p1), some (.int p2), some (.int p3)]) (stk' := [.int x6, sf_rv x5]) rfl rfl rfl ?_)
      refine fr_aI0 dd_Mo_held_27 (fun x7 => fr_pc (pc' := 28) rfl ?_)
      refine fp_goto (tgt := 32) dd_Mo_held_28 rfl ?_
      exact fr_iret (v := x7) rfl rfl dd_Mo_held_32
theorem mt_Mo_heldOf : sf_Mt ({ cls := "SplitFaresModel", name := "heldOf", desc := "(II)I" } : Jvm.MethodName) prog_13_method_24_code 5 (some .int) 2 := ⟨sw_1476, sw_12, ⟨by decide, by decide, by decide +kernel⟩, by decide⟩
theorem dd_Mo_heldOf_0 : decode prog_13_method_24_code 0 = .ok (.iconst 0, 1) := by decide +kernel
theorem dd_Mo_heldOf_1 : decode prog_13_method_24_code 1 = .ok (.istore_n 3, 1) := by decide +kernel
theorem dd_Mo_heldOf_2 : decode prog_13_method_24_code 2 = .ok (.bipush 64, 2) := by decide +kernel
theorem dd_Mo_heldOf_4 : decode prog_13_method_24_code 4 = .ok (.iload_n 1, 1) := by decide +kernel
theorem dd_Mo_heldOf_5 : decode prog_13_method_24_code 5 = .ok (.imul, 1) := by decide +kernel
theorem dd_Mo_heldOf_6 : decode prog_13_method_24_code 6 = .ok (.istore 4, 2) := by decide +kernel
theorem dd_Mo_heldOf_8 : decode prog_13_method_24_code 8 = .ok (.iload 4, 2) := by decide +kernel
theorem dd_Mo_heldOf_10 : decode prog_13_method_24_code 10 = .ok (.bipush 64, 2) := by decide +kernel
theorem dd_Mo_heldOf_12 : decode prog_13_method_24_code 12 = .ok (.iload_n 2, 1) := by decide +kernel
theorem dd_Mo_heldOf_13 : decode prog_13_method_24_code 13 = .ok (.iconst 1, 1) := by decide +kernel
theorem dd_Mo_heldOf_14 : decode prog_13_method_24_code 14 = .ok (.iadd, 1) := by decide +kernel
theorem dd_Mo_heldOf_15 : decode prog_13_method_24_code 15 = .ok (.imul, 1) := by decide +kernel
theorem dd_Mo_heldOf_16 : decode prog_13_method_24_code 16 = .ok (.if_icmp .ge 21, 3) := by decide +kernel
theorem dd_Mo_heldOf_19 : decode prog_13_method_24_code 19 = .ok (.iload_n 3, 1) := by decide +kernel
theorem dd_Mo_heldOf_20 : decode prog_13_method_24_code 20 = .ok (.aload_n 0, 1) := by decide +kernel
theorem dd_Mo_heldOf_21 : decode prog_13_method_24_code 21 = .ok (.getfield 32, 3) := by decide +kernel
theorem dd_Mo_heldOf_24 : decode prog_13_method_24_code 24 = .ok (.iconst 0, 1) := by decide +kernel
theorem dd_Mo_heldOf_25 : decode prog_13_method_24_code 25 = .ok (.iload 4, 2) := by decide +kernel
theorem dd_Mo_heldOf_27 : decode prog_13_method_24_code 27 = .ok (.iadd, 1) := by decide +kernel
theorem dd_Mo_heldOf_28 : decode prog_13_method_24_code 28 = .ok (.iaload, 1) := by decide +kernel
theorem dd_Mo_heldOf_29 : decode prog_13_method_24_code 29 = .ok (.iadd, 1) := by decide +kernel
theorem dd_Mo_heldOf_30 : decode prog_13_method_24_code 30 = .ok (.istore_n 3, 1) := by decide +kernel
theorem dd_Mo_heldOf_31 : decode prog_13_method_24_code 31 = .ok (.iinc 4 1, 3) := by decide +kernel
theorem dd_Mo_heldOf_34 : decode prog_13_method_24_code 34 = .ok (.goto (-26), 3) := by decide +kernel
theorem dd_Mo_heldOf_37 : decode prog_13_method_24_code 37 = .ok (.iload_n 3, 1) := by decide +kernel
theorem dd_Mo_heldOf_38 : decode prog_13_method_24_code 38 = .ok (.ireturn, 1) := by decide +kernel
def jx_Mo_heldOf (p0 : Option Nat) (p1 : Int32) (p2 : Int32) : sf_M (Int32) :=
  sf_bnd (sf_ret (((64 : Int32) * p1))) fun y1 =>
  sf_bnd (sf_loop (β := (Int32 × Int32)) (γ := (Int32)) (fun b2 =>
  if ((64 : Int32) * (p2 + (1 : Int32))) ≤ b2.2 then (
  sf_ret (.inr b2.1)
  ) else (
  sf_bnd (sf_gR 11 2 p0) fun x4 =>
  sf_bnd (sf_aI 0 x4 ((0 : Int32) + b2.2)) fun x5 =>
  sf_bnd (sf_ret ((b2.1 + x5))) fun y6 =>
  sf_bnd (sf_ret (b2.2 + (1 : Int32))) fun y7 =>
  sf_ret (.inl (y6, y7))
  )
  ) sf_fuel ((0 : Int32), y1)) (fun e8 =>
  sf_ret e8
  )
set_option maxRecDepth 20000 in
set_option maxHeartbeats 4000000 in
theorem ok_Mo_heldOf (p0 : Option Nat) (p1 : Int32) (p2 : Int32) : sf_Ok ({ cls := "SplitFaresModel", name := "heldOf", desc := "(II)I" } : Jvm.MethodName) prog_13_method_24_code 5 (some .int) 0 [sf_rv p0, .int p1, .int p2] (jx_Mo_heldOf p0 p1 p2) (fun r => some (.int r)) := by
  refine sf_Ok.of (env := [some (sf_rv p0), some (.int p1), some (.int p2), none, none]) (plainFor_of_name (by decide)) [false, false, false] (fun G => ⟨pk_r, pk_i, pk_i, trivial⟩) (Nat.le_of_ble_eq_true rfl) rfl (fun X => ?_)
  unfold jx_Mo_heldOf
  refine fp_iconst (v := (0 : Int32)) dd_Mo_heldOf_0 (by decide) (fr_pc (pc' := 1) rfl ?_)
  refine fp_istore_n (i := 3) dd_Mo_heldOf_1 rfl (Nat.le_of_ble_eq_true rfl) (fun _ => c1_i rfl) (fr_to (pc' := 2) (env' := [some (sf_rv p0), some (.int p1), some (.int p2), some (.int (0 : Int32)), none]) (stk' := []) rfl rfl rfl ?_)
  refine fp_bipush (v := (64 : Int32)) dd_Mo_heldOf_2 (by decide) (fr_pc (pc' := 4) rfl ?_)
  refine fp_iload_n (i := 1) (x := p1) dd_Mo_heldOf_4 rfl rfl (fr_pc (pc' := 5) rfl ?_)
  refine fp_imul dd_Mo_heldOf_5 (fr_pc (pc' := 6) rfl ?_)
  refine fr_nistore (i := 4) dd_Mo_heldOf_6 (Nat.le_of_ble_eq_true rfl) (fun _ => c1_i rfl) (fun y1 => fr_to (pc' := 8) (env' := [some (sf_rv p0), some (.int p1), some (.int p2), some (.int (0 : Int32)), some (.int y1)]) (stk' := []) rfl rfl rfl ?_)
  refine fr_to (pc' := 8) (env' := [some (sf_rv p0), some (.int p1), some (.int p2), some (.int (0 : Int32)), some (.int y1)]) (stk' := []) rfl rfl rfl ?_
  refine fr_bnd (l1 := (fun (e8 : (Int32)) => sf_p 37 [some (sf_rv p0), some (.int p1), some (.int p2), some (.int e8), none] [])) (fr_loop (Lb := (fun (b2 : (Int32 × Int32)) => sf_p 8 [some (sf_rv p0), some (.int p1), some (.int p2), some (.int b2.1), some (.int b2.2)] [])) (fun b2 => ?_) _ _) (fun e8 => ?_)
  · refine fp_iload (i := 4) (x := b2.2) dd_Mo_heldOf_8 rfl (fr_pc (pc' := 10) rfl ?_)
    refine fp_bipush (v := (64 : Int32)) dd_Mo_heldOf_10 (by decide) (fr_pc (pc' := 12) rfl ?_)
    refine fp_iload_n (i := 2) (x := p2) dd_Mo_heldOf_12 rfl rfl (fr_pc (pc' := 13) rfl ?_)
    refine fp_iconst (v := (1 : Int32)) dd_Mo_heldOf_13 (by decide) (fr_pc (pc' := 14) rfl ?_)
    refine fp_iadd dd_Mo_heldOf_14 (fr_pc (pc' := 15) rfl ?_)
    refine fp_imul dd_Mo_heldOf_15 (fr_pc (pc' := 16) rfl ?_)
    refine fr_icmp_ge (tgt := 37) dd_Mo_heldOf_16 rfl (fun _ => ?_) (fun _ => ?_)
    · refine fr_wk [true, true, true, true, false] ?_
      exact fr_ret rfl
    · refine fr_pc (pc' := 19) rfl ?_
      refine fp_iload_n (i := 3) (x := b2.1) dd_Mo_heldOf_19 rfl rfl (fr_pc (pc' := 20) rfl ?_)
      refine fp_aload_n (i := 0) (r := p0) dd_Mo_heldOf_20 rfl rfl (fr_pc (pc' := 21) rfl ?_)
      refine fr_gR cl_11 2 (by decide) rfl sw_1074 dd_Mo_heldOf_21 (fun x4 => fr_pc (pc' := 24) rfl ?_)
      refine fp_iconst (v := (0 : Int32)) dd_Mo_heldOf_24 (by decide) (fr_pc (pc' := 25) rfl ?_)
      refine fp_iload (i := 4) (x := b2.2) dd_Mo_heldOf_25 rfl (fr_pc (pc' := 27) rfl ?_)
      refine fp_iadd dd_Mo_heldOf_27 (fr_pc (pc' := 28) rfl ?_)
      refine fr_aI0 dd_Mo_heldOf_28 (fun x5 => fr_pc (pc' := 29) rfl ?_)
      refine fp_iadd dd_Mo_heldOf_29 (fr_pc (pc' := 30) rfl ?_)
      refine fr_nistore_n (i := 3) dd_Mo_heldOf_30 rfl (Nat.le_of_ble_eq_true rfl) (fun _ => c1_i rfl) (fun y6 => fr_to (pc' := 31) (env' := [some (sf_rv p0), some (.int p1), some (.int p2), some (.int y6), some (.int b2.2)]) (stk' := []) rfl rfl rfl ?_)
      refine fr_niinc (i := 4) (x := b2.2) (w := (1 : Int32)) dd_Mo_heldOf_31 rfl (by decide) (Nat.le_of_ble_eq_true rfl) (fun _ => c1_i rfl) (fun y7 => fr_to (pc' := 34) (env' := [some (sf_rv p0), some (.int p1), some (.int p2), some (.int y6), some (.int y7)]) (stk' := []) rfl rfl rfl ?_)
      refine fp_goto (tgt := 8) dd_Mo_heldOf_34 rfl ?_
      exact fr_ret rfl
  · refine fp_iload_n (i := 3) (x := e8) dd_Mo_heldOf_37 rfl rfl (fr_pc (pc' := 38) rfl ?_)
    exact fr_iret (v := e8) rfl rfl dd_Mo_heldOf_38
theorem mt_Mo_heldAll : sf_Mt ({ cls := "SplitFaresModel", name := "heldAll", desc := "()I" } : Jvm.MethodName) prog_13_method_25_code 1 (some .int) 0 := ⟨sw_1472, sw_12, ⟨by decide, by decide, by decide +kernel⟩, by decide⟩
theorem dd_Mo_heldAll_0 : decode prog_13_method_25_code 0 = .ok (.aload_n 0, 1) := by decide +kernel
theorem dd_Mo_heldAll_1 : decode prog_13_method_25_code 1 = .ok (.iconst 0, 1) := by decide +kernel
theorem dd_Mo_heldAll_2 : decode prog_13_method_25_code 2 = .ok (.iconst 2, 1) := by decide +kernel
theorem dd_Mo_heldAll_3 : decode prog_13_method_25_code 3 = .ok (.invokevirtual 147, 3) := by decide +kernel
theorem dd_Mo_heldAll_6 : decode prog_13_method_25_code 6 = .ok (.ireturn, 1) := by decide +kernel
def jx_Mo_heldAll (p0 : Option Nat) : sf_M (Int32) :=
  sf_bnd (sf_rc 11 p0 (jx_Mo_heldOf p0 (0 : Int32) (2 : Int32))) fun x1 =>
  sf_ret x1
set_option maxRecDepth 20000 in
set_option maxHeartbeats 4000000 in
theorem ok_Mo_heldAll (p0 : Option Nat) : sf_Ok ({ cls := "SplitFaresModel", name := "heldAll", desc := "()I" } : Jvm.MethodName) prog_13_method_25_code 1 (some .int) 1 [sf_rv p0] (jx_Mo_heldAll p0) (fun r => some (.int r)) := by
  refine sf_Ok.of (env := [some (sf_rv p0)]) (plainFor_of_name (by decide)) [false] (fun G => ⟨pk_r, trivial⟩) (Nat.le_of_ble_eq_true rfl) rfl (fun X => ?_)
  unfold jx_Mo_heldAll
  refine fp_aload_n (i := 0) (r := p0) dd_Mo_heldAll_0 rfl rfl (fr_pc (pc' := 1) rfl ?_)
  refine fp_iconst (v := (0 : Int32)) dd_Mo_heldAll_1 (by decide) (fr_pc (pc' := 2) rfl ?_)
  refine fp_iconst (v := (2 : Int32)) dd_Mo_heldAll_2 (by decide) (fr_pc (pc' := 3) rfl ?_)
  refine fr_callV (stk := []) (As := [.int (0 : Int32), .int (2 : Int32)]) cl_11 (ok_Mo_heldOf p0 (0 : Int32) (2 : Int32)) mt_Mo_heldOf rfl rfl sw_1473 sw_1475 sp_63 (by decide) (Nat.le_of_ble_eq_true rfl) dd_Mo_heldAll_3 (fun x1 => fr_to (pc' := 6) (env' := [some (sf_rv p0)]) (stk' := [.int x1]) rfl rfl rfl ?_)
  exact fr_iret (v := x1) rfl rfl dd_Mo_heldAll_6
theorem mt_Mo_isTerm : sf_Mt ({ cls := "SplitFaresModel", name := "isTerm", desc := "(II)Z" } : Jvm.MethodName) prog_13_method_26_code 2 (some .boolean) 2 := ⟨sw_1300, sw_12, ⟨by decide, by decide, by decide +kernel⟩, by decide⟩
theorem dd_Mo_isTerm_0 : decode prog_13_method_26_code 0 = .ok (.iload_n 0, 1) := by decide +kernel
theorem dd_Mo_isTerm_1 : decode prog_13_method_26_code 1 = .ok (.tableswitch 52 0 2 #[27, 36, 44], 27) := by decide +kernel
theorem dd_Mo_isTerm_53 : decode prog_13_method_26_code 53 = .ok (.iconst 0, 1) := by decide +kernel
theorem dd_Mo_isTerm_54 : decode prog_13_method_26_code 54 = .ok (.ireturn, 1) := by decide +kernel
theorem dd_Mo_isTerm_45 : decode prog_13_method_26_code 45 = .ok (.iload_n 1, 1) := by decide +kernel
theorem dd_Mo_isTerm_46 : decode prog_13_method_26_code 46 = .ok (.iconst 0, 1) := by decide +kernel
theorem dd_Mo_isTerm_47 : decode prog_13_method_26_code 47 = .ok (.bipush 9, 2) := by decide +kernel
theorem dd_Mo_isTerm_49 : decode prog_13_method_26_code 49 = .ok (.invokestatic 18, 3) := by decide +kernel
theorem dd_Mo_isTerm_52 : decode prog_13_method_26_code 52 = .ok (.ireturn, 1) := by decide +kernel
theorem dd_Mo_isTerm_37 : decode prog_13_method_26_code 37 = .ok (.iload_n 1, 1) := by decide +kernel
theorem dd_Mo_isTerm_38 : decode prog_13_method_26_code 38 = .ok (.iconst 0, 1) := by decide +kernel
theorem dd_Mo_isTerm_39 : decode prog_13_method_26_code 39 = .ok (.bipush 10, 2) := by decide +kernel
theorem dd_Mo_isTerm_41 : decode prog_13_method_26_code 41 = .ok (.invokestatic 18, 3) := by decide +kernel
theorem dd_Mo_isTerm_44 : decode prog_13_method_26_code 44 = .ok (.ireturn, 1) := by decide +kernel
theorem dd_Mo_isTerm_28 : decode prog_13_method_26_code 28 = .ok (.iload_n 1, 1) := by decide +kernel
theorem dd_Mo_isTerm_29 : decode prog_13_method_26_code 29 = .ok (.iconst 0, 1) := by decide +kernel
theorem dd_Mo_isTerm_30 : decode prog_13_method_26_code 30 = .ok (.sipush 999, 3) := by decide +kernel
theorem dd_Mo_isTerm_33 : decode prog_13_method_26_code 33 = .ok (.invokestatic 18, 3) := by decide +kernel
theorem dd_Mo_isTerm_36 : decode prog_13_method_26_code 36 = .ok (.ireturn, 1) := by decide +kernel
def jx_Mo_isTerm (p0 : Int32) (p1 : Int32) : sf_M (Int32) :=
  if p0 = (0 : Int32) then (
  sf_bnd (jx_Mo_lies p1 (0 : Int32) (999 : Int32)) fun x1 =>
  sf_bnd (sf_rz x1) fun x2 =>
  sf_ret x2
  ) else (
  if p0 = (1 : Int32) then (
  sf_bnd (jx_Mo_lies p1 (0 : Int32) (10 : Int32)) fun x3 =>
  sf_bnd (sf_rz x3) fun x4 =>
  sf_ret x4
  ) else (
  if p0 = (2 : Int32) then (
  sf_bnd (jx_Mo_lies p1 (0 : Int32) (9 : Int32)) fun x5 =>
  sf_bnd (sf_rz x5) fun x6 =>
  sf_ret x6
  ) else (
  sf_ret (0 : Int32)
  )
  )
  )
set_option maxRecDepth 20000 in
set_option maxHeartbeats 4000000 in
theorem ok_Mo_isTerm (p0 : Int32) (p1 : Int32) : sf_Ok ({ cls := "SplitFaresModel", name := "isTerm", desc := "(II)Z" } : Jvm.MethodName) prog_13_method_26_code 2 (some .boolean) 1 [.int p0, .int p1] (jx_Mo_isTerm p0 p1) (fun r => some (.int r)) := by
  refine sf_Ok.of (env := [some (.int p0), some (.int p1)]) (plainFor_of_name (by decide)) [false, false] (fun G => ⟨pk_i, pk_i, trivial⟩) (Nat.le_of_ble_eq_true rfl) rfl (fun X => ?_)
  unfold jx_Mo_isTerm
  refine fp_iload_n (i := 0) (x := p0) dd_Mo_isTerm_0 rfl rfl (fr_pc (pc' := 1) rfl ?_)
  refine fp_tsw (ts := [28, 37, 45]) (t0 := 53) (cs := [((0 : Int32), 28), ((1 : Int32), 37), ((2 : Int32), 45)]) dd_Mo_isTerm_1 (by decide) rfl ?_
  refine fr_sw (fun _ => ?_) (fun _ => ?_)
  · refine fp_iload_n (i := 1) (x := p1) dd_Mo_isTerm_28 rfl rfl (fr_pc (pc' := 29) rfl ?_)
    refine fp_iconst (v := (0 : Int32)) dd_Mo_isTerm_29 (by decide) (fr_pc (pc' := 30) rfl ?_)
    refine fp_sipush (v := (999 : Int32)) dd_Mo_isTerm_30 (by decide) (fr_pc (pc' := 33) rfl ?_)
    refine fr_callS (stk := []) (ok_Mo_lies p1 (0 : Int32) (999 : Int32)) mt_Mo_lies rfl rfl sw_1237 sw_1238 (by decide) (Nat.le_of_ble_eq_true rfl) dd_Mo_isTerm_33 (fun x1 => fr_to (pc' := 36) (env' := [some (.int p0), some (.int p1)]) (stk' := [.int x1]) rfl rfl rfl ?_)
    exact fr_zret (r := fun x2 => x2) (fun _ => rfl) rfl dd_Mo_isTerm_36
  · refine fr_sw (fun _ => ?_) (fun _ => ?_)
    · refine fp_iload_n (i := 1) (x := p1) dd_Mo_isTerm_37 rfl rfl (fr_pc (pc' := 38) rfl ?_)
      refine fp_iconst (v := (0 : Int32)) dd_Mo_isTerm_38 (by decide) (fr_pc (pc' := 39) rfl ?_)
      refine fp_bipush (v := (10 : Int32)) dd_Mo_isTerm_39 (by decide) (fr_pc (pc' := 41) rfl ?_)
      refine fr_callS (stk := []) (ok_Mo_lies p1 (0 : Int32) (10 : Int32)) mt_Mo_lies rfl rfl sw_1237 sw_1238 (by decide) (Nat.le_of_ble_eq_true rfl) dd_Mo_isTerm_41 (fun x3 => fr_to (pc' := 44) (env' := [some (.int p0), some (.int p1)]) (stk' := [.int x3]) rfl rfl rfl ?_)
      exact fr_zret (r := fun x4 => x4) (fun _ => rfl) rfl dd_Mo_isTerm_44
    · refine fr_sw (fun _ => ?_) (fun _ => ?_)
      · refine fp_iload_n (i := 1) (x := p1) dd_Mo_isTerm_45 rfl rfl (fr_pc (pc' := 46) rfl ?_)
        refine fp_iconst (v := (0 : Int32)) dd_Mo_isTerm_46 (by decide) (fr_pc (pc' := 47) rfl ?_)
        refine fp_bipush (v := (9 : Int32)) dd_Mo_isTerm_47 (by decide) (fr_pc (pc' := 49) rfl ?_)
        refine fr_callS (stk := []) (ok_Mo_lies p1 (0 : Int32) (9 : Int32)) mt_Mo_lies rfl rfl sw_1237 sw_1238 (by decide) (Nat.le_of_ble_eq_true rfl) dd_Mo_isTerm_49 (fun x5 => fr_to (pc' := 52) (env' := [some (.int p0), some (.int p1)]) (stk' := [.int x5]) rfl rfl rfl ?_)
        exact fr_zret (r := fun x6 => x6) (fun _ => rfl) rfl dd_Mo_isTerm_52
      · refine fr_pc (pc' := 53) rfl ?_
        refine fp_iconst (v := (0 : Int32)) dd_Mo_isTerm_53 (by decide) (fr_pc (pc' := 54) rfl ?_)
        exact fr_zret0 (v := (0 : Int32)) (Or.inl rfl) rfl rfl dd_Mo_isTerm_54
theorem mt_Mo_termAt : sf_Mt ({ cls := "SplitFaresModel", name := "termAt", desc := "(I)I" } : Jvm.MethodName) prog_13_method_27_code 1 (some .int) 1 := ⟨sw_1303, sw_12, ⟨by decide, by decide, by decide +kernel⟩, by decide⟩
theorem dd_Mo_termAt_0 : decode prog_13_method_27_code 0 = .ok (.iload_n 0, 1) := by decide +kernel
theorem dd_Mo_termAt_1 : decode prog_13_method_27_code 1 = .ok (.ifCond .ne 9, 3) := by decide +kernel
theorem dd_Mo_termAt_4 : decode prog_13_method_27_code 4 = .ok (.sipush 194, 3) := by decide +kernel
theorem dd_Mo_termAt_7 : decode prog_13_method_27_code 7 = .ok (.goto 17, 3) := by decide +kernel
theorem dd_Mo_termAt_10 : decode prog_13_method_27_code 10 = .ok (.iload_n 0, 1) := by decide +kernel
theorem dd_Mo_termAt_11 : decode prog_13_method_27_code 11 = .ok (.iconst 1, 1) := by decide +kernel
theorem dd_Mo_termAt_12 : decode prog_13_method_27_code 12 = .ok (.if_icmp .ne 9, 3) := by decide +kernel
theorem dd_Mo_termAt_15 : decode prog_13_method_27_code 15 = .ok (.sipush 225, 3) := by decide +kernel
theorem dd_Mo_termAt_18 : decode prog_13_method_27_code 18 = .ok (.goto 6, 3) := by decide +kernel
theorem dd_Mo_termAt_21 : decode prog_13_method_27_code 21 = .ok (.sipush 226, 3) := by decide +kernel
theorem dd_Mo_termAt_24 : decode prog_13_method_27_code 24 = .ok (.ireturn, 1) := by decide +kernel
def jx_Mo_termAt (p0 : Int32) : sf_M (Int32) :=
  if p0 = 0 then (
  sf_ret (194 : Int32)
  ) else (
  if p0 = (1 : Int32) then (
  sf_ret (225 : Int32)
  ) else (
  sf_ret (226 : Int32)
  )
  )
set_option maxRecDepth 20000 in
set_option maxHeartbeats 4000000 in
theorem ok_Mo_termAt (p0 : Int32) : sf_Ok ({ cls := "SplitFaresModel", name := "termAt", desc := "(I)I" } : Jvm.MethodName) prog_13_method_27_code 1 (some .int) 0 [.int p0] (jx_Mo_termAt p0) (fun r => some (.int r)) := by
  refine sf_Ok.of (env := [some (.int p0)]) (plainFor_of_name (by decide)) [false] (fun G => ⟨pk_i, trivial⟩) (Nat.le_of_ble_eq_true rfl) rfl (fun X => ?_)
  unfold jx_Mo_termAt
  refine fp_iload_n (i := 0) (x := p0) dd_Mo_termAt_0 rfl rfl (fr_pc (pc' := 1) rfl ?_)
  refine fr_if_ne (tgt := 10) dd_Mo_termAt_1 rfl (fun _ => ?_) (fun _ => ?_)
  · refine fr_pc (pc' := 4) rfl ?_
    refine fp_sipush (v := (194 : Int32)) dd_Mo_termAt_4 (by decide) (fr_pc (pc' := 7) rfl ?_)
    refine fp_goto (tgt := 24) dd_Mo_termAt_7 rfl ?_
    exact fr_iret (v := (194 : Int32)) rfl rfl dd_Mo_termAt_24
  · refine fp_iload_n (i := 0) (x := p0) dd_Mo_termAt_10 rfl rfl (fr_pc (pc' := 11) rfl ?_)
    refine fp_iconst (v := (1 : Int32)) dd_Mo_termAt_11 (by decide) (fr_pc (pc' := 12) rfl ?_)
    refine fr_icmp_ne (tgt := 21) dd_Mo_termAt_12 rfl (fun _ => ?_) (fun _ => ?_)
    · refine fr_pc (pc' := 15) rfl ?_
      refine fp_sipush (v := (225 : Int32)) dd_Mo_termAt_15 (by decide) (fr_pc (pc' := 18) rfl ?_)
      refine fp_goto (tgt := 24) dd_Mo_termAt_18 rfl ?_
      exact fr_iret (v := (225 : Int32)) rfl rfl dd_Mo_termAt_24
    · refine fp_sipush (v := (226 : Int32)) dd_Mo_termAt_21 (by decide) (fr_pc (pc' := 24) rfl ?_)
      exact fr_iret (v := (226 : Int32)) rfl rfl dd_Mo_termAt_24
theorem mt_Mo_terms : sf_Mt ({ cls := "SplitFaresModel", name := "terms", desc := "(II)I" } : Jvm.MethodName) prog_13_method_28_code 4 (some .int) 2 := ⟨sw_1297, sw_12, ⟨by decide, by decide, by decide +kernel⟩, by decide⟩
theorem dd_Mo_terms_0 : decode prog_13_method_28_code 0 = .ok (.iload_n 1, 1) := by decide +kernel
theorem dd_Mo_terms_1 : decode prog_13_method_28_code 1 = .ok (.iload_n 2, 1) := by decide +kernel
theorem dd_Mo_terms_2 : decode prog_13_method_28_code 2 = .ok (.invokestatic 150, 3) := by decide +kernel
theorem dd_Mo_terms_5 : decode prog_13_method_28_code 5 = .ok (.ifCond .ne 9, 3) := by decide +kernel
theorem dd_Mo_terms_8 : decode prog_13_method_28_code 8 = .ok (.aload_n 0, 1) := by decide +kernel
theorem dd_Mo_terms_9 : decode prog_13_method_28_code 9 = .ok (.iconst (-1), 1) := by decide +kernel
theorem dd_Mo_terms_10 : decode prog_13_method_28_code 10 = .ok (.invokevirtual 116, 3) := by decide +kernel
theorem dd_Mo_terms_13 : decode prog_13_method_28_code 13 = .ok (.ireturn, 1) := by decide +kernel
theorem dd_Mo_terms_14 : decode prog_13_method_28_code 14 = .ok (.aload_n 0, 1) := by decide +kernel
theorem dd_Mo_terms_15 : decode prog_13_method_28_code 15 = .ok (.getfield 32, 3) := by decide +kernel
theorem dd_Mo_terms_18 : decode prog_13_method_28_code 18 = .ok (.iload_n 1, 1) := by decide +kernel
theorem dd_Mo_terms_19 : decode prog_13_method_28_code 19 = .ok (.invokestatic 153, 3) := by decide +kernel
theorem dd_Mo_terms_22 : decode prog_13_method_28_code 22 = .ok (.iaload, 1) := by decide +kernel
theorem dd_Mo_terms_23 : decode prog_13_method_28_code 23 = .ok (.istore_n 3, 1) := by decide +kernel
theorem dd_Mo_terms_24 : decode prog_13_method_28_code 24 = .ok (.aload_n 0, 1) := by decide +kernel
theorem dd_Mo_terms_25 : decode prog_13_method_28_code 25 = .ok (.getfield 32, 3) := by decide +kernel
theorem dd_Mo_terms_28 : decode prog_13_method_28_code 28 = .ok (.iload_n 1, 1) := by decide +kernel
theorem dd_Mo_terms_29 : decode prog_13_method_28_code 29 = .ok (.invokestatic 153, 3) := by decide +kernel
theorem dd_Mo_terms_32 : decode prog_13_method_28_code 32 = .ok (.iload_n 2, 1) := by decide +kernel
theorem dd_Mo_terms_33 : decode prog_13_method_28_code 33 = .ok (.iastore, 1) := by decide +kernel
theorem dd_Mo_terms_34 : decode prog_13_method_28_code 34 = .ok (.aload_n 0, 1) := by decide +kernel
theorem dd_Mo_terms_35 : decode prog_13_method_28_code 35 = .ok (.iload_n 3, 1) := by decide +kernel
theorem dd_Mo_terms_36 : decode prog_13_method_28_code 36 = .ok (.invokevirtual 119, 3) := by decide +kernel
theorem dd_Mo_terms_39 : decode prog_13_method_28_code 39 = .ok (.ireturn, 1) := by decide +kernel
def jx_Mo_terms (p0 : Option Nat) (p1 : Int32) (p2 : Int32) : sf_M (Int32) :=
  sf_bnd (jx_Mo_isTerm p1 p2) fun x1 =>
  if x1 = 0 then (
  sf_bnd (sf_rc 11 p0 (jx_Mo_refuses p0 (-1 : Int32))) fun x3 =>
  sf_ret x3
  ) else (
  sf_bnd (sf_gR 11 2 p0) fun x4 =>
  sf_bnd (jx_Mo_termAt p1) fun x5 =>
  sf_bnd (sf_aI 0 x4 x5) fun x6 =>
  sf_bnd (sf_gR 11 2 p0) fun x7 =>
  sf_bnd (jx_Mo_termAt p1) fun x8 =>
  sf_bnd (sf_sI 0 x7 x8 p2) fun _ =>
  sf_bnd (sf_rc 11 p0 (jx_Mo_settled p0 x6)) fun x9 =>
  sf_ret x9
  )
set_option maxRecDepth 20000 in
set_option maxHeartbeats 4000000 in
theorem ok_Mo_terms (p0 : Option Nat) (p1 : Int32) (p2 : Int32) : sf_Ok ({ cls := "SplitFaresModel", name := "terms", desc := "(II)I" } : Jvm.MethodName) prog_13_method_28_code 4 (some .int) 2 [sf_rv p0, .int p1, .int p2] (jx_Mo_terms p0 p1 p2) (fun r => some (.int r)) := by
  refine sf_Ok.of (env := [some (sf_rv p0), some (.int p1), some (.int p2), none]) (plainFor_of_name (by decide)) [false, false, false] (fun G => ⟨pk_r, pk_i, pk_i, trivial⟩) (Nat.le_of_ble_eq_true rfl) rfl (fun X => ?_)
  unfold jx_Mo_terms
  refine fp_iload_n (i := 1) (x := p1) dd_Mo_terms_0 rfl rfl (fr_pc (pc' := 1) rfl ?_)
  refine fp_iload_n (i := 2) (x := p2) dd_Mo_terms_1 rfl rfl (fr_pc (pc' := 2) rfl ?_)
  refine fr_callS (stk := []) (ok_Mo_isTerm p1 p2) mt_Mo_isTerm rfl rfl sw_1298 sw_1299 (by decide) (Nat.le_of_ble_eq_true rfl) dd_Mo_terms_2 (fun x1 => fr_to (pc' := 5) (env' := [some (sf_rv p0), some (.int p1), some (.int p2), none]) (stk' := [.int x1]) rfl rfl rfl ?_)
  refine fr_if_ne (tgt := 14) dd_Mo_terms_5 rfl (fun _ => ?_) (fun _ => ?_)
  · refine fr_pc (pc' := 8) rfl ?_
    refine fp_aload_n (i := 0) (r := p0) dd_Mo_terms_8 rfl rfl (fr_pc (pc' := 9) rfl ?_)
    refine fp_iconst (v := (-1 : Int32)) dd_Mo_terms_9 (by decide) (fr_pc (pc' := 10) rfl ?_)
    refine fr_callV (stk := []) (As := [.int (-1 : Int32)]) cl_11 (ok_Mo_refuses p0 (-1 : Int32)) mt_Mo_refuses rfl rfl sw_1240 sw_1242 sp_27 (by decide) (Nat.le_of_ble_eq_true rfl) dd_Mo_terms_10 (fun x3 => fr_to (pc' := 13) (env' := [some (sf_rv p0), some (.int p1), some (.int p2), none]) (stk' := [.int x3]) rfl rfl rfl ?_)
    exact fr_iret (v := x3) rfl rfl dd_Mo_terms_13
  · refine fp_aload_n (i := 0) (r := p0) dd_Mo_terms_14 rfl rfl (fr_pc (pc' := 15) rfl ?_)
    refine fr_gR cl_11 2 (by decide) rfl sw_1074 dd_Mo_terms_15 (fun x4 => fr_pc (pc' := 18) rfl ?_)
    refine fp_iload_n (i := 1) (x := p1) dd_Mo_terms_18 rfl rfl (fr_pc (pc' := 19) rfl ?_)
    refine fr_callS (stk := [sf_rv x4]) (ok_Mo_termAt p1) mt_Mo_termAt rfl rfl sw_1301 sw_1302 (by decide) (Nat.le_of_ble_eq_true rfl) dd_Mo_terms_19 (fun x5 => fr_to (pc' := 22) (env' := [some (sf_rv p0), some (.int p1), some (.int p2), none]) (stk' := [.int x5, sf_rv x4]) rfl rfl rfl ?_)
    refine fr_aI0 dd_Mo_terms_22 (fun x6 => fr_pc (pc' := 23) rfl ?_)
    refine fp_istore_n (i := 3) dd_Mo_terms_23 rfl (Nat.le_of_ble_eq_true rfl) (fun _ => c1_i rfl) (fr_to (pc' := 24) (env' := [some (sf_rv p0), some (.int p1), some (.int p2), some (.int x6)]) (stk' := []) rfl rfl rfl ?_)
    refine fp_aload_n (i := 0) (r := p0) dd_Mo_terms_24 rfl rfl (fr_pc (pc' := 25) rfl ?_)
    refine fr_gR cl_11 2 (by decide) rfl sw_1074 dd_Mo_terms_25 (fun x7 => fr_pc (pc' := 28) rfl ?_)
    refine fp_iload_n (i := 1) (x := p1) dd_Mo_terms_28 rfl rfl (fr_pc (pc' := 29) rfl ?_)
    refine fr_callS (stk := [sf_rv x7]) (ok_Mo_termAt p1) mt_Mo_termAt rfl rfl sw_1301 sw_1302 (by decide) (Nat.le_of_ble_eq_true rfl) dd_Mo_terms_29 (fun x8 => fr_to (pc' := 32) (env' := [some (sf_rv p0), some (.int p1), some (.int p2), some (.int x6)]) (stk' := [.int x8, sf_rv x7]) rfl rfl rfl ?_)
    refine fp_iload_n (i := 2) (x := p2) dd_Mo_terms_32 rfl rfl (fr_pc (pc' := 33) rfl ?_)
    refine fr_sI0 dd_Mo_terms_33 (fr_pc (pc' := 34) rfl ?_)
    refine fp_aload_n (i := 0) (r := p0) dd_Mo_terms_34 rfl rfl (fr_pc (pc' := 35) rfl ?_)
    refine fp_iload_n (i := 3) (x := x6) dd_Mo_terms_35 rfl rfl (fr_pc (pc' := 36) rfl ?_)
    refine fr_callV (stk := []) (As := [.int x6]) cl_11 (ok_Mo_settled p0 x6) mt_Mo_settled rfl rfl sw_1252 sw_1254 sp_29 (by decide) (Nat.le_of_ble_eq_true rfl) dd_Mo_terms_36 (fun x9 => fr_to (pc' := 39) (env' := [some (sf_rv p0), some (.int p1), some (.int p2), some (.int x6)]) (stk' := [.int x9]) rfl rfl rfl ?_)
    exact fr_iret (v := x9) rfl rfl dd_Mo_terms_39
theorem mt_Mo_row : sf_Mt ({ cls := "SplitFaresModel", name := "row", desc := "()I" } : Jvm.MethodName) prog_13_method_29_code 6 (some .int) 0 := ⟨sw_1307, sw_12, ⟨by decide, by decide, by decide +kernel⟩, by decide⟩
theorem dd_Mo_row_0 : decode prog_13_method_29_code 0 = .ok (.aload_n 0, 1) := by decide +kernel
theorem dd_Mo_row_1 : decode prog_13_method_29_code 1 = .ok (.getfield 156, 3) := by decide +kernel
theorem dd_Mo_row_4 : decode prog_13_method_29_code 4 = .ok (.istore_n 1, 1) := by decide +kernel
theorem dd_Mo_row_5 : decode prog_13_method_29_code 5 = .ok (.aload_n 0, 1) := by decide +kernel
theorem dd_Mo_row_6 : decode prog_13_method_29_code 6 = .ok (.iconst 0, 1) := by decide +kernel
theorem dd_Mo_row_7 : decode prog_13_method_29_code 7 = .ok (.putfield 156, 3) := by decide +kernel
theorem dd_Mo_row_10 : decode prog_13_method_29_code 10 = .ok (.iload_n 1, 1) := by decide +kernel
theorem dd_Mo_row_11 : decode prog_13_method_29_code 11 = .ok (.ifCond .ne 10, 3) := by decide +kernel
theorem dd_Mo_row_14 : decode prog_13_method_29_code 14 = .ok (.aload_n 0, 1) := by decide +kernel
theorem dd_Mo_row_15 : decode prog_13_method_29_code 15 = .ok (.bipush (-6), 2) := by decide +kernel
theorem dd_Mo_row_17 : decode prog_13_method_29_code 17 = .ok (.invokevirtual 116, 3) := by decide +kernel
theorem dd_Mo_row_20 : decode prog_13_method_29_code 20 = .ok (.ireturn, 1) := by decide +kernel
theorem dd_Mo_row_21 : decode prog_13_method_29_code 21 = .ok (.iconst 0, 1) := by decide +kernel
theorem dd_Mo_row_22 : decode prog_13_method_29_code 22 = .ok (.istore_n 2, 1) := by decide +kernel
theorem dd_Mo_row_23 : decode prog_13_method_29_code 23 = .ok (.aload_n 0, 1) := by decide +kernel
theorem dd_Mo_row_24 : decode prog_13_method_29_code 24 = .ok (.iload_n 1, 1) := by decide +kernel
theorem dd_Mo_row_25 : decode prog_13_method_29_code 25 = .ok (.iconst 3, 1) := by decide +kernel
theorem dd_Mo_row_26 : decode prog_13_method_29_code 26 = .ok (.irem, 1) := by decide +kernel
theorem dd_Mo_row_27 : decode prog_13_method_29_code 27 = .ok (.ifCond .ne 7, 3) := by decide +kernel
theorem dd_Mo_row_30 : decode prog_13_method_29_code 30 = .ok (.iconst 0, 1) := by decide +kernel
theorem dd_Mo_row_31 : decode prog_13_method_29_code 31 = .ok (.goto 4, 3) := by decide +kernel
theorem dd_Mo_row_34 : decode prog_13_method_29_code 34 = .ok (.iconst 1, 1) := by decide +kernel
theorem dd_Mo_row_35 : decode prog_13_method_29_code 35 = .ok (.putfield 159, 3) := by decide +kernel
theorem dd_Mo_row_38 : decode prog_13_method_29_code 38 = .ok (.iconst 0, 1) := by decide +kernel
theorem dd_Mo_row_39 : decode prog_13_method_29_code 39 = .ok (.istore_n 3, 1) := by decide +kernel
theorem dd_Mo_row_40 : decode prog_13_method_29_code 40 = .ok (.iload_n 3, 1) := by decide +kernel
theorem dd_Mo_row_41 : decode prog_13_method_29_code 41 = .ok (.iconst 3, 1) := by decide +kernel
theorem dd_Mo_row_42 : decode prog_13_method_29_code 42 = .ok (.iadd, 1) := by decide +kernel
theorem dd_Mo_row_43 : decode prog_13_method_29_code 43 = .ok (.iload_n 1, 1) := by decide +kernel
theorem dd_Mo_row_44 : decode prog_13_method_29_code 44 = .ok (.if_icmp .gt 124, 3) := by decide +kernel
theorem dd_Mo_row_47 : decode prog_13_method_29_code 47 = .ok (.aload_n 0, 1) := by decide +kernel
theorem dd_Mo_row_48 : decode prog_13_method_29_code 48 = .ok (.getfield 49, 3) := by decide +kernel
theorem dd_Mo_row_51 : decode prog_13_method_29_code 51 = .ok (.iload_n 3, 1) := by decide +kernel
theorem dd_Mo_row_52 : decode prog_13_method_29_code 52 = .ok (.baload, 1) := by decide +kernel
theorem dd_Mo_row_53 : decode prog_13_method_29_code 53 = .ok (.sipush 255, 3) := by decide +kernel
theorem dd_Mo_row_56 : decode prog_13_method_29_code 56 = .ok (.iand, 1) := by decide +kernel
theorem dd_Mo_row_57 : decode prog_13_method_29_code 57 = .ok (.istore 4, 2) := by decide +kernel
theorem dd_Mo_row_59 : decode prog_13_method_29_code 59 = .ok (.aload_n 0, 1) := by decide +kernel
theorem dd_Mo_row_60 : decode prog_13_method_29_code 60 = .ok (.getfield 32, 3) := by decide +kernel
theorem dd_Mo_row_63 : decode prog_13_method_29_code 63 = .ok (.sipush 227, 3) := by decide +kernel
theorem dd_Mo_row_66 : decode prog_13_method_29_code 66 = .ok (.iaload, 1) := by decide +kernel
theorem dd_Mo_row_67 : decode prog_13_method_29_code 67 = .ok (.bipush 6, 2) := by decide +kernel
theorem dd_Mo_row_69 : decode prog_13_method_29_code 69 = .ok (.if_icmp .ge 31, 3) := by decide +kernel
theorem dd_Mo_row_72 : decode prog_13_method_29_code 72 = .ok (.iload 4, 2) := by decide +kernel
theorem dd_Mo_row_74 : decode prog_13_method_29_code 74 = .ok (.aload_n 0, 1) := by decide +kernel
theorem dd_Mo_row_75 : decode prog_13_method_29_code 75 = .ok (.getfield 49, 3) := by decide +kernel
theorem dd_Mo_row_78 : decode prog_13_method_29_code 78 = .ok (.iload_n 3, 1) := by decide +kernel
theorem dd_Mo_row_79 : decode prog_13_method_29_code 79 = .ok (.iconst 1, 1) := by decide +kernel
theorem dd_Mo_row_80 : decode prog_13_method_29_code 80 = .ok (.iadd, 1) := by decide +kernel
theorem dd_Mo_row_81 : decode prog_13_method_29_code 81 = .ok (.baload, 1) := by decide +kernel
theorem dd_Mo_row_82 : decode prog_13_method_29_code 82 = .ok (.aload_n 0, 1) := by decide +kernel
theorem dd_Mo_row_83 : decode prog_13_method_29_code 83 = .ok (.getfield 49, 3) := by decide +kernel
theorem dd_Mo_row_86 : decode prog_13_method_29_code 86 = .ok (.iload_n 3, 1) := by decide +kernel
theorem dd_Mo_row_87 : decode prog_13_method_29_code 87 = .ok (.iconst 2, 1) := by decide +kernel
theorem dd_Mo_row_88 : decode prog_13_method_29_code 88 = .ok (.iadd, 1) := by decide +kernel
theorem dd_Mo_row_89 : decode prog_13_method_29_code 89 = .ok (.baload, 1) := by decide +kernel
theorem dd_Mo_row_90 : decode prog_13_method_29_code 90 = .ok (.invokestatic 125, 3) := by decide +kernel
theorem dd_Mo_row_93 : decode prog_13_method_29_code 93 = .ok (.ifCond .eq 7, 3) := by decide +kernel
theorem dd_Mo_row_96 : decode prog_13_method_29_code 96 = .ok (.iconst 1, 1) := by decide +kernel
theorem dd_Mo_row_97 : decode prog_13_method_29_code 97 = .ok (.goto 4, 3) := by decide +kernel
theorem dd_Mo_row_100 : decode prog_13_method_29_code 100 = .ok (.iconst 0, 1) := by decide +kernel
theorem dd_Mo_row_101 : decode prog_13_method_29_code 101 = .ok (.istore 5, 2) := by decide +kernel
theorem dd_Mo_row_103 : decode prog_13_method_29_code 103 = .ok (.iload 5, 2) := by decide +kernel
theorem dd_Mo_row_105 : decode prog_13_method_29_code 105 = .ok (.ifCond .eq 25, 3) := by decide +kernel
theorem dd_Mo_row_108 : decode prog_13_method_29_code 108 = .ok (.aload_n 0, 1) := by decide +kernel
theorem dd_Mo_row_109 : decode prog_13_method_29_code 109 = .ok (.iload 4, 2) := by decide +kernel
theorem dd_Mo_row_111 : decode prog_13_method_29_code 111 = .ok (.aload_n 0, 1) := by decide +kernel
theorem dd_Mo_row_112 : decode prog_13_method_29_code 112 = .ok (.getfield 49, 3) := by decide +kernel
theorem dd_Mo_row_115 : decode prog_13_method_29_code 115 = .ok (.iload_n 3, 1) := by decide +kernel
theorem dd_Mo_row_116 : decode prog_13_method_29_code 116 = .ok (.iconst 1, 1) := by decide +kernel
theorem dd_Mo_row_117 : decode prog_13_method_29_code 117 = .ok (.iadd, 1) := by decide +kernel
theorem dd_Mo_row_118 : decode prog_13_method_29_code 118 = .ok (.baload, 1) := by decide +kernel
theorem dd_Mo_row_119 : decode prog_13_method_29_code 119 = .ok (.aload_n 0, 1) := by decide +kernel
theorem dd_Mo_row_120 : decode prog_13_method_29_code 120 = .ok (.getfield 49, 3) := by decide +kernel
theorem dd_Mo_row_123 : decode prog_13_method_29_code 123 = .ok (.iload_n 3, 1) := by decide +kernel
theorem dd_Mo_row_124 : decode prog_13_method_29_code 124 = .ok (.iconst 2, 1) := by decide +kernel
theorem dd_Mo_row_125 : decode prog_13_method_29_code 125 = .ok (.iadd, 1) := by decide +kernel
theorem dd_Mo_row_126 : decode prog_13_method_29_code 126 = .ok (.baload, 1) := by decide +kernel
theorem dd_Mo_row_127 : decode prog_13_method_29_code 127 = .ok (.invokevirtual 128, 3) := by decide +kernel
theorem dd_Mo_row_130 : decode prog_13_method_29_code 130 = .ok (.iload_n 2, 1) := by decide +kernel
theorem dd_Mo_row_131 : decode prog_13_method_29_code 131 = .ok (.iload 5, 2) := by decide +kernel
theorem dd_Mo_row_133 : decode prog_13_method_29_code 133 = .ok (.ifCond .eq 7, 3) := by decide +kernel
theorem dd_Mo_row_136 : decode prog_13_method_29_code 136 = .ok (.iconst 1, 1) := by decide +kernel
theorem dd_Mo_row_137 : decode prog_13_method_29_code 137 = .ok (.goto 4, 3) := by decide +kernel
theorem dd_Mo_row_140 : decode prog_13_method_29_code 140 = .ok (.iconst 0, 1) := by decide +kernel
theorem dd_Mo_row_141 : decode prog_13_method_29_code 141 = .ok (.iadd, 1) := by decide +kernel
theorem dd_Mo_row_142 : decode prog_13_method_29_code 142 = .ok (.istore_n 2, 1) := by decide +kernel
theorem dd_Mo_row_143 : decode prog_13_method_29_code 143 = .ok (.aload_n 0, 1) := by decide +kernel
theorem dd_Mo_row_144 : decode prog_13_method_29_code 144 = .ok (.dup, 1) := by decide +kernel
theorem dd_Mo_row_145 : decode prog_13_method_29_code 145 = .ok (.getfield 159, 3) := by decide +kernel
theorem dd_Mo_row_148 : decode prog_13_method_29_code 148 = .ok (.iload 5, 2) := by decide +kernel
theorem dd_Mo_row_150 : decode prog_13_method_29_code 150 = .ok (.ifCond .eq 7, 3) := by decide +kernel
theorem dd_Mo_row_153 : decode prog_13_method_29_code 153 = .ok (.iconst 0, 1) := by decide +kernel
theorem dd_Mo_row_154 : decode prog_13_method_29_code 154 = .ok (.goto 4, 3) := by decide +kernel
theorem dd_Mo_row_157 : decode prog_13_method_29_code 157 = .ok (.iconst 1, 1) := by decide +kernel
theorem dd_Mo_row_158 : decode prog_13_method_29_code 158 = .ok (.iadd, 1) := by decide +kernel
theorem dd_Mo_row_159 : decode prog_13_method_29_code 159 = .ok (.putfield 159, 3) := by decide +kernel
theorem dd_Mo_row_162 : decode prog_13_method_29_code 162 = .ok (.iinc 3 3, 3) := by decide +kernel
theorem dd_Mo_row_165 : decode prog_13_method_29_code 165 = .ok (.goto (-125), 3) := by decide +kernel
theorem dd_Mo_row_168 : decode prog_13_method_29_code 168 = .ok (.aload_n 0, 1) := by decide +kernel
theorem dd_Mo_row_169 : decode prog_13_method_29_code 169 = .ok (.iload_n 2, 1) := by decide +kernel
theorem dd_Mo_row_170 : decode prog_13_method_29_code 170 = .ok (.invokevirtual 14, 3) := by decide +kernel
theorem dd_Mo_row_173 : decode prog_13_method_29_code 173 = .ok (.ireturn, 1) := by decide +kernel
def jx_Mo_row (p0 : Option Nat) : sf_M (Int32) :=
  sf_bnd (sf_gI 11 13 p0) fun x1 =>
  sf_bnd (sf_pI 11 13 p0 (0 : Int32)) fun _ =>
  if x1 = 0 then (
  sf_bnd (sf_rc 11 p0 (jx_Mo_refuses p0 (-6 : Int32))) fun x3 =>
  sf_ret x3
  ) else (
  sf_bnd (α := (Int32)) (
  if (x1 - x1 / (3 : Int32) * (3 : Int32)) = 0 then (
  sf_ret (0 : Int32)
  ) else (
  sf_ret (1 : Int32)
  )
  ) (fun v5 =>
  sf_bnd (sf_pI 11 6 p0 v5) fun _ =>
  sf_bnd (sf_loop (β := (Int32 × Int32)) (γ := (Int32)) (fun b6 =>
  if x1 < (b6.2 + (3 : Int32)) then (
  sf_ret (.inr b6.1)
  ) else (
  sf_bnd (sf_gR 11 11 p0) fun x8 =>
  sf_bnd (sf_aI 2 x8 b6.2) fun x9 =>
  sf_bnd (sf_ret ((x9 &&& (255 : Int32)))) fun y10 =>
  sf_bnd (sf_gR 11 2 p0) fun x11 =>
  sf_bnd (sf_aI 0 x11 (227 : Int32)) fun x12 =>
  sf_bnd (α := (Int32)) (
  sf_or (α := (Int32)) (β := (Unit)) (
  if (6 : Int32) ≤ x12 then (
  sf_ret (.inr ())
  ) else (
  sf_bnd (sf_gR 11 11 p0) fun x14 =>
  sf_bnd (sf_aI 2 x14 (b6.2 + (1 : Int32))) fun x15 =>
  sf_bnd (sf_gR 11 11 p0) fun x16 =>
  sf_bnd (sf_aI 2 x16 (b6.2 + (2 : Int32))) fun x17 =>
  sf_bnd (jx_Mo_canTrain y10 x15 x17) fun x18 =>
  if x18 = 0 then (
  sf_ret (.inr ())
  ) else (
  sf_ret (.inl (1 : Int32))
  )
  )
  ) (fun v20 =>
  sf_ret (0 : Int32)
  )
  ) (fun v21 =>
  sf_bnd (α := (Unit)) (
  if v21 = 0 then (
  sf_ret ()
  ) else (
  sf_bnd (sf_gR 11 11 p0) fun x23 =>
  sf_bnd (sf_aI 2 x23 (b6.2 + (1 : Int32))) fun x24 =>
  sf_bnd (sf_gR 11 11 p0) fun x25 =>
  sf_bnd (sf_aI 2 x25 (b6.2 + (2 : Int32))) fun x26 =>
  sf_bnd (sf_rc 11 p0 (jx_Mo_adds p0 y10 x24 x26)) fun _ =>
  sf_ret ()
  )
  ) (fun v28 =>
  sf_bnd (α := (Int32)) (
  if v21 = 0 then (
  sf_ret (0 : Int32)
  ) else (
  sf_ret (1 : Int32)
  )
  ) (fun v30 =>
  sf_bnd (sf_ret ((b6.1 + v30))) fun y31 =>
  sf_bnd (sf_gI 11 6 p0) fun x32 =>
  sf_bnd (α := (Int32)) (
  if v21 = 0 then (
  sf_ret (1 : Int32)
  ) else (
  sf_ret (0 : Int32)
  )
  ) (fun v34 =>
  sf_bnd (sf_pI 11 6 p0 (x32 + v34)) fun _ =>
  sf_bnd (sf_ret (b6.2 + (3 : Int32))) fun y35 =>
  sf_ret (.inl (y31, y35))
  )
  )
  )
  )
  )
  ) sf_fuel ((0 : Int32), (0 : Int32))) (fun e36 =>
  sf_bnd (sf_rc 11 p0 (jx_Mo_good p0 e36)) fun x37 =>
  sf_ret x37
  )
  )
  )
set_option maxRecDepth 20000 in
set_option maxHeartbeats 4000000 in
theorem ok_Mo_row (p0 : Option Nat) : sf_Ok ({ cls := "SplitFaresModel", name := "row", desc := "()I" } : Jvm.MethodName) prog_13_method_29_code 6 (some .int) 2 [sf_rv p0] (jx_Mo_row p0) (fun r => some (.int r)) := by
  refine sf_Ok.of (env := [some (sf_rv p0), none, none, none, none, none]) (plainFor_of_name (by decide)) [false] (fun G => ⟨pk_r, trivial⟩) (Nat.le_of_ble_eq_true rfl) rfl (fun X => ?_)
  unfold jx_Mo_row
  refine fp_aload_n (i := 0) (r := p0) dd_Mo_row_0 rfl rfl (fr_pc (pc' := 1) rfl ?_)
  refine fr_gI cl_11 13 (by decide) rfl sw_1085 dd_Mo_row_1 (fun x1 => fr_pc (pc' := 4) rfl ?_)
  refine fp_istore_n (i := 1) dd_Mo_row_4 rfl (Nat.le_of_ble_eq_true rfl) (fun _ => c1_r rfl) (fr_to (pc' := 5) (env' := [some (sf_rv p0), some (.int x1), none, none, none, none]) (stk' := []) rfl rfl rfl ?_)
  refine fp_aload_n (i := 0) (r := p0) dd_Mo_row_5 rfl rfl (fr_pc (pc' := 6) rfl ?_)
  refine fp_iconst (v := (0 : Int32)) dd_Mo_row_6 (by decide) (fr_pc (pc' := 7) rfl ?_)
  refine fr_pI cl_11 13 (by decide) rfl sw_1085 rfl ⟨rfl, rfl⟩ dd_Mo_row_7 (fr_pc (pc' := 10) rfl ?_)
  refine fp_iload_n (i := 1) (x := x1) dd_Mo_row_10 rfl rfl (fr_pc (pc' := 11) rfl ?_)
  refine fr_if_ne (tgt := 21) dd_Mo_row_11 rfl (fun _ => ?_) (fun _ => ?_)
  · refine fr_pc (pc' := 14) rfl ?_
    refine fp_aload_n (i := 0) (r := p0) dd_Mo_row_14 rfl rfl (fr_pc (pc' := 15) rfl ?_)
    refine fp_bipush (v := (-6 : Int32)) dd_Mo_row_15 (by decide) (fr_pc (pc' := 17) rfl ?_)
    refine fr_callV (stk := []) (As := [.int (-6 : Int32)]) cl_11 (ok_Mo_refuses p0 (-6 : Int32)) mt_Mo_refuses rfl rfl sw_1240 sw_1242 sp_27 (by decide) (Nat.le_of_ble_eq_true rfl) dd_Mo_row_17 (fun x3 => fr_to (pc' := 20) (env' := [some (sf_rv p0), some (.int x1), none, none, none, none]) (stk' := [.int x3]) rfl rfl rfl ?_)
    exact fr_iret (v := x3) rfl rfl dd_Mo_row_20
  · refine fp_iconst (v := (0 : Int32)) dd_Mo_row_21 (by decide) (fr_pc (pc' := 22) rfl ?_)
    refine fp_istore_n (i := 2) dd_Mo_row_22 rfl (Nat.le_of_ble_eq_true rfl) (fun _ => c1_i rfl) (fr_to (pc' := 23) (env' := [some (sf_rv p0), some (.int x1), some (.int (0 : Int32)), none, none, none]) (stk' := []) rfl rfl rfl ?_)
    refine fp_aload_n (i := 0) (r := p0) dd_Mo_row_23 rfl rfl (fr_pc (pc' := 24) rfl ?_)
    refine fp_iload_n (i := 1) (x := x1) dd_Mo_row_24 rfl rfl (fr_pc (pc' := 25) rfl ?_)
    refine fp_iconst (v := (3 : Int32)) dd_Mo_row_25 (by decide) (fr_pc (pc' := 26) rfl ?_)
    refine fp_irem0 dd_Mo_row_26 (by decide) (fr_pc (pc' := 27) rfl ?_)
    refine fr_bnd (l1 := (fun (v5 : (Int32)) => sf_p 35 [some (sf_rv p0), some (.int x1), some (.int (0 : Int32)), none, none, none] [.int v5, sf_rv p0])) ?_ (fun v5 => ?_)
    · refine fr_if_ne (tgt := 34) dd_Mo_row_27 rfl (fun _ => ?_) (fun _ => ?_)
      · refine fr_pc (pc' := 30) rfl ?_
        refine fp_iconst (v := (0 : Int32)) dd_Mo_row_30 (by decide) (fr_pc (pc' := 31) rfl ?_)
        refine fp_goto (tgt := 35) dd_Mo_row_31 rfl ?_
        exact fr_ret rfl
      · refine fp_iconst (v := (1 : Int32)) dd_Mo_row_34 (by decide) (fr_pc (pc' := 35) rfl ?_)
        exact fr_ret rfl
    · refine fr_pI cl_11 6 (by decide) rfl sw_1078 rfl ⟨rfl, rfl⟩ dd_Mo_row_35 (fr_pc (pc' := 38) rfl ?_)
      refine fp_iconst (v := (0 : Int32)) dd_Mo_row_38 (by decide) (fr_pc (pc' := 39) rfl ?_)
      refine fp_istore_n (i := 3) dd_Mo_row_39 rfl (Nat.le_of_ble_eq_true rfl) (fun _ => c1_i rfl) (fr_to (pc' := 40) (env' := [some (sf_rv p0), some (.int x1), some (.int (0 : Int32)), some (.int (0 : Int32)), none, none]) (stk' := []) rfl rfl rfl ?_)
      refine fr_to (pc' := 40) (env' := [some (sf_rv p0), some (.int x1), some (.int (0 : Int32)), some (.int (0 : Int32)), none, none]) (stk' := []) rfl rfl rfl ?_
      refine fr_bnd (l1 := (fun (e36 : (Int32)) => sf_p 168 [some (sf_rv p0), some (.int x1), some (.int e36), none, none, none] [])) (fr_loop (Lb := (fun (b6 : (Int32 × Int32)) => sf_p 40 [some (sf_rv p0), some (.int x1), some (.int b6.1), some (.int b6.2), none, none] [])) (fun b6 => ?_) _ _) (fun e36 => ?_)
      · refine fp_iload_n (i := 3) (x := b6.2) dd_Mo_row_40 rfl rfl (fr_pc (pc' := 41) rfl ?_)
        refine fp_iconst (v := (3 : Int32)) dd_Mo_row_41 (by decide) (fr_pc (pc' := 42) rfl ?_)
        refine fp_iadd dd_Mo_row_42 (fr_pc (pc' := 43) rfl ?_)
        refine fp_iload_n (i := 1) (x := x1) dd_Mo_row_43 rfl rfl (fr_pc (pc' := 44) rfl ?_)
        refine fr_icmp_gt (tgt := 168) dd_Mo_row_44 rfl (fun _ => ?_) (fun _ => ?_)
        · refine fr_wk [true, true, true, false, false, false] ?_
          exact fr_ret rfl
        · refine fr_pc (pc' := 47) rfl ?_
          refine fp_aload_n (i := 0) (r := p0) dd_Mo_row_47 rfl rfl (fr_pc (pc' := 48) rfl ?_)
          refine fr_gR cl_11 11 (by decide) rfl sw_1083 dd_Mo_row_48 (fun x8 => fr_pc (pc' := 51) rfl ?_)
          refine fp_iload_n (i := 3) (x := b6.2) dd_Mo_row_51 rfl rfl (fr_pc (pc' := 52) rfl ?_)
          refine fr_aI2 dd_Mo_row_52 (fun x9 => fr_pc (pc' := 53) rfl ?_)
          refine fp_sipush (v := (255 : Int32)) dd_Mo_row_53 (by decide) (fr_pc (pc' := 56) rfl ?_)
          refine fp_iand dd_Mo_row_56 (fr_pc (pc' := 57) rfl ?_)
          refine fr_nistore (i := 4) dd_Mo_row_57 (Nat.le_of_ble_eq_true rfl) (fun _ => c1_i rfl) (fun y10 => fr_to (pc' := 59) (env' := [some (sf_rv p0), some (.int x1), some (.int b6.1), some (.int b6.2), some (.int y10), none]) (stk' := []) rfl rfl rfl ?_)
          refine fp_aload_n (i := 0) (r := p0) dd_Mo_row_59 rfl rfl (fr_pc (pc' := 60) rfl ?_)
          refine fr_gR cl_11 2 (by decide) rfl sw_1074 dd_Mo_row_60 (fun x11 => fr_pc (pc' := 63) rfl ?_)
          refine fp_sipush (v := (227 : Int32)) dd_Mo_row_63 (by decide) (fr_pc (pc' := 66) rfl ?_)
          refine fr_aI0 dd_Mo_row_66 (fun x12 => fr_pc (pc' := 67) rfl ?_)
          refine fp_bipush (v := (6 : Int32)) dd_Mo_row_67 (by decide) (fr_pc (pc' := 69) rfl ?_)
          refine fr_bnd (l1 := (fun (v21 : (Int32)) => sf_p 101 [some (sf_rv p0), some (.int x1), some (.int b6.1), some (.int b6.2), some (.int y10), none] [.int v21])) ?_ (fun v21 => ?_)
          · refine fr_or (l1 := (fun (v20 : (Unit)) => sf_p 100 [some (sf_rv p0), some (.int x1), some (.int b6.1), some (.int b6.2), some (.int y10), none] [])) ?_ (fun v20 => ?_)
            · refine fr_icmp_ge (tgt := 100) dd_Mo_row_69 rfl (fun _ => ?_) (fun _ => ?_)
              · exact fr_ret rfl
              · refine fr_pc (pc' := 72) rfl ?_
                refine fp_iload (i := 4) (x := y10) dd_Mo_row_72 rfl (fr_pc (pc' := 74) rfl ?_)
                refine fp_aload_n (i := 0) (r := p0) dd_Mo_row_74 rfl rfl (fr_pc (pc' := 75) rfl ?_)
                refine fr_gR cl_11 11 (by decide) rfl sw_1083 dd_Mo_row_75 (fun x14 => fr_pc (pc' := 78) rfl ?_)
                refine fp_iload_n (i := 3) (x := b6.2) dd_Mo_row_78 rfl rfl (fr_pc (pc' := 79) rfl ?_)
                refine fp_iconst (v := (1 : Int32)) dd_Mo_row_79 (by decide) (fr_pc (pc' := 80) rfl ?_)
                refine fp_iadd dd_Mo_row_80 (fr_pc (pc' := 81) rfl ?_)
                refine fr_aI2 dd_Mo_row_81 (fun x15 => fr_pc (pc' := 82) rfl ?_)
                refine fp_aload_n (i := 0) (r := p0) dd_Mo_row_82 rfl rfl (fr_pc (pc' := 83) rfl ?_)
                refine fr_gR cl_11 11 (by decide) rfl sw_1083 dd_Mo_row_83 (fun x16 => fr_pc (pc' := 86) rfl ?_)
                refine fp_iload_n (i := 3) (x := b6.2) dd_Mo_row_86 rfl rfl (fr_pc (pc' := 87) rfl ?_)
                refine fp_iconst (v := (2 : Int32)) dd_Mo_row_87 (by decide) (fr_pc (pc' := 88) rfl ?_)
                refine fp_iadd dd_Mo_row_88 (fr_pc (pc' := 89) rfl ?_)
                refine fr_aI2 dd_Mo_row_89 (fun x17 => fr_pc (pc' := 90) rfl ?_)
                refine fr_callS (stk := []) (ok_Mo_canTrain y10 x15 x17) mt_Mo_canTrain rfl rfl sw_1260 sw_1261 (by decide) (Nat.le_of_ble_eq_true rfl) dd_Mo_row_90 (fun x18 => fr_to (pc' := 93) (env' := [some (sf_rv p0), some (.int x1), some (.int b6.1), some (.int b6.2), some (.int y10), none]) (stk' := [.int x18]) rfl rfl rfl ?_)
                refine fr_if_eq (tgt := 100) dd_Mo_row_93 rfl (fun _ => ?_) (fun _ => ?_)
                · exact fr_ret rfl
                · refine fr_pc (pc' := 96) rfl ?_
                  refine fp_iconst (v := (1 : Int32)) dd_Mo_row_96 (by decide) (fr_pc (pc' := 97) rfl ?_)
                  refine fp_goto (tgt := 101) dd_Mo_row_97 rfl ?_
                  exact fr_ret rfl
            · refine fp_iconst (v := (0 : Int32)) dd_Mo_row_100 (by decide) (fr_pc (pc' := 101) rfl ?_)
              exact fr_ret rfl
          · refine fp_istore (i := 5) dd_Mo_row_101 (Nat.le_of_ble_eq_true rfl) (fun _ => c1_i rfl) (fr_to (pc' := 103) (env' := [some (sf_rv p0), some (.int x1), some (.int b6.1), some (.int b6.2), some (.int y10), some (.int v21)]) (stk' := []) rfl rfl rfl ?_)
            refine fp_iload (i := 5) (x := v21) dd_Mo_row_103 rfl (fr_pc (pc' := 105) rfl ?_)
            refine fr_bnd (l1 := (fun (v28 : (Unit)) => sf_p 130 [some (sf_rv p0), some (.int x1), some (.int b6.1), some (.int b6.2), some (.int y10), some (.int v21)] [])) ?_ (fun v28 => ?_)
            · refine fr_if_eq (tgt := 130) dd_Mo_row_105 rfl (fun _ => ?_) (fun _ => ?_)
              · exact fr_ret rfl
              · refine fr_pc (pc' := 108) rfl ?_
                refine fp_aload_n (i := 0) (r := p0) dd_Mo_row_108 rfl rfl (fr_pc (pc' := 109) rfl ?_)
                refine fp_iload (i := 4) (x := y10) dd_Mo_row_109 rfl (fr_pc (pc' := 111) rfl ?_)
                refine fp_aload_n (i := 0) (r := p0) dd_Mo_row_111 rfl rfl (fr_pc (pc' := 112) rfl ?_)
                refine fr_gR cl_11 11 (by decide) rfl sw_1083 dd_Mo_row_112 (fun x23 => fr_pc (pc' := 115) rfl ?_)
                refine fp_iload_n (i := 3) (x := b6.2) dd_Mo_row_115 rfl rfl (fr_pc (pc' := 116) rfl ?_)
                refine fp_iconst (v := (1 : Int32)) dd_Mo_row_116 (by decide) (fr_pc (pc' := 117) rfl ?_)
                refine fp_iadd dd_Mo_row_117 (fr_pc (pc' := 118) rfl ?_)
                refine fr_aI2 dd_Mo_row_118 (fun x24 => fr_pc (pc' := 119) rfl ?_)
                refine fp_aload_n (i := 0) (r := p0) dd_Mo_row_119 rfl rfl (fr_pc (pc' := 120) rfl ?_)
                refine fr_gR cl_11 11 (by decide) rfl sw_1083 dd_Mo_row_120 (fun x25 => fr_pc (pc' := 123) rfl ?_)
                refine fp_iload_n (i := 3) (x := b6.2) dd_Mo_row_123 rfl rfl (fr_pc (pc' := 124) rfl ?_)
                refine fp_iconst (v := (2 : Int32)) dd_Mo_row_124 (by decide) (fr_pc (pc' := 125) rfl ?_)
                refine fp_iadd dd_Mo_row_125 (fr_pc (pc' := 126) rfl ?_)
                refine fr_aI2 dd_Mo_row_126 (fun x26 => fr_pc (pc' := 127) rfl ?_)
                refine fr_callV (stk := []) (As := [.int y10, .int x24, .int x26]) cl_11 (ok_Mo_adds p0 y10 x24 x26) mt_Mo_adds rfl rfl sw_1266 sw_1268 sp_30 (by decide) (Nat.le_of_ble_eq_true rfl) dd_Mo_row_127 (fun u27 => fr_to (pc' := 130) (env' := [some (sf_rv p0), some (.int x1), some (.int b6.1), some (.int b6.2), some (.int y10), some (.int v21)]) (stk' := []) rfl rfl rfl ?_)
                exact fr_ret rfl
            · refine fp_iload_n (i := 2) (x := b6.1) dd_Mo_row_130 rfl rfl (fr_pc (pc' := 131) rfl ?_)
              refine fp_iload (i := 5) (x := v21) dd_Mo_row_131 rfl (fr_pc (pc' := 133) rfl ?_)
              refine fr_bnd (l1 := (fun (v30 : (Int32)) => sf_p 141 [some (sf_rv p0), some (.int x1), some (.int b6.1), some (.int b6.2), some (.int y10), some (.int v21)] [.int v30, .int b6.1])) ?_ (fun v30 => ?_)
              · refine fr_if_eq (tgt := 140) dd_Mo_row_133 rfl (fun _ => ?_) (fun _ => ?_)
                · refine fp_iconst (v := (0 : Int32)) dd_Mo_row_140 (by decide) (fr_pc (pc' := 141) rfl ?_)
                  exact fr_ret rfl
                · refine fr_pc (pc' := 136) rfl ?_
                  refine fp_iconst (v := (1 : Int32)) dd_Mo_row_136 (by decide) (fr_pc (pc' := 137) rfl ?_)
                  refine fp_goto (tgt := 141) dd_Mo_row_137 rfl ?_
                  exact fr_ret rfl
              · refine fp_iadd dd_Mo_row_141 (fr_pc (pc' := 142) rfl ?_)
                refine fr_nistore_n (i := 2) dd_Mo_row_142 rfl (Nat.le_of_ble_eq_true rfl) (fun _ => c1_i rfl) (fun y31 => fr_to (pc' := 143) (env' := [some (sf_rv p0), some (.int x1), some (.int y31), some (.int b6.2), some (.int y10), some (.int v21)]) (stk' := []) rfl rfl rfl ?_)
                refine fp_aload_n (i := 0) (r := p0) dd_Mo_row_143 rfl rfl (fr_pc (pc' := 144) rfl ?_)
                refine fp_dup_r dd_Mo_row_144 (fr_pc (pc' := 145) rfl ?_)
                refine fr_gI cl_11 6 (by decide) rfl sw_1078 dd_Mo_row_145 (fun x32 => fr_pc (pc' := 148) rfl ?_)
                refine fp_iload (i := 5) (x := v21) dd_Mo_row_148 rfl (fr_pc (pc' := 150) rfl ?_)
                refine fr_bnd (l1 := (fun (v34 : (Int32)) => sf_p 158 [some (sf_rv p0), some (.int x1), some (.int y31), some (.int b6.2), some (.int y10), some (.int v21)] [.int v34, .int x32, sf_rv p0])) ?_ (fun v34 => ?_)
                · refine fr_if_eq (tgt := 157) dd_Mo_row_150 rfl (fun _ => ?_) (fun _ => ?_)
                  · refine fp_iconst (v := (1 : Int32)) dd_Mo_row_157 (by decide) (fr_pc (pc' := 158) rfl ?_)
                    exact fr_ret rfl
                  · refine fr_pc (pc' := 153) rfl ?_
                    refine fp_iconst (v := (0 : Int32)) dd_Mo_row_153 (by decide) (fr_pc (pc' := 154) rfl ?_)
                    refine fp_goto (tgt := 158) dd_Mo_row_154 rfl ?_
                    exact fr_ret rfl
                · refine fp_iadd dd_Mo_row_158 (fr_pc (pc' := 159) rfl ?_)
                  refine fr_pI cl_11 6 (by decide) rfl sw_1078 rfl ⟨rfl, rfl⟩ dd_Mo_row_159 (fr_pc (pc' := 162) rfl ?_)
                  refine fr_niinc (i := 3) (x := b6.2) (w := (3 : Int32)) dd_Mo_row_162 rfl (by decide) (Nat.le_of_ble_eq_true rfl) (fun _ => c1_i rfl) (fun y35 => fr_to (pc' := 165) (env' := [some (sf_rv p0), some (.int x1), some (.int y31), some (.int y35), some (.int y10), some (.int v21)]) (stk' := []) rfl rfl rfl ?_)
                  refine fp_goto (tgt := 40) dd_Mo_row_165 rfl ?_
                  refine fr_wk [true, true, true, true, false, false] ?_
                  exact fr_ret rfl
      · refine fp_aload_n (i := 0) (r := p0) dd_Mo_row_168 rfl rfl (fr_pc (pc' := 169) rfl ?_)
        refine fp_iload_n (i := 2) (x := e36) dd_Mo_row_169 rfl rfl (fr_pc (pc' := 170) rfl ?_)
        refine fr_callV (stk := []) (As := [.int e36]) cl_11 (ok_Mo_good p0 e36) mt_Mo_good rfl rfl sw_1244 sw_1246 sp_28 (by decide) (Nat.le_of_ble_eq_true rfl) dd_Mo_row_170 (fun x37 => fr_to (pc' := 173) (env' := [some (sf_rv p0), some (.int x1), some (.int e36), none, none, none]) (stk' := [.int x37]) rfl rfl rfl ?_)
        exact fr_iret (v := x37) rfl rfl dd_Mo_row_173
theorem mt_Mo_delays : sf_Mt ({ cls := "SplitFaresModel", name := "delays", desc := "()I" } : Jvm.MethodName) prog_13_method_30_code 1 (some .int) 0 := ⟨sw_1311, sw_12, ⟨by decide, by decide, by decide +kernel⟩, by decide⟩
theorem dd_Mo_delays_0 : decode prog_13_method_30_code 0 = .ok (.aload_n 0, 1) := by decide +kernel
theorem dd_Mo_delays_1 : decode prog_13_method_30_code 1 = .ok (.getfield 159, 3) := by decide +kernel
theorem dd_Mo_delays_4 : decode prog_13_method_30_code 4 = .ok (.ireturn, 1) := by decide +kernel
def jx_Mo_delays (p0 : Option Nat) : sf_M (Int32) :=
  sf_bnd (sf_gI 11 6 p0) fun x1 =>
  sf_ret x1
set_option maxRecDepth 20000 in
set_option maxHeartbeats 4000000 in
theorem ok_Mo_delays (p0 : Option Nat) : sf_Ok ({ cls := "SplitFaresModel", name := "delays", desc := "()I" } : Jvm.MethodName) prog_13_method_30_code 1 (some .int) 0 [sf_rv p0] (jx_Mo_delays p0) (fun r => some (.int r)) := by
  refine sf_Ok.of (env := [some (sf_rv p0)]) (plainFor_of_name (by decide)) [false] (fun G => ⟨pk_r, trivial⟩) (Nat.le_of_ble_eq_true rfl) rfl (fun X => ?_)
  unfold jx_Mo_delays
  refine fp_aload_n (i := 0) (r := p0) dd_Mo_delays_0 rfl rfl (fr_pc (pc' := 1) rfl ?_)
  refine fr_gI cl_11 6 (by decide) rfl sw_1078 dd_Mo_delays_1 (fun x1 => fr_pc (pc' := 4) rfl ?_)
  exact fr_iret (v := x1) rfl rfl dd_Mo_delays_4
theorem mt_Mo_feed : sf_Mt ({ cls := "SplitFaresModel", name := "feed", desc := "(IIIII)I" } : Jvm.MethodName) prog_13_method_31_code 7 (some .int) 5 := ⟨sw_1315, sw_12, ⟨by decide, by decide, by decide +kernel⟩, by decide⟩
theorem dd_Mo_feed_0 : decode prog_13_method_31_code 0 = .ok (.aload_n 0, 1) := by decide +kernel
theorem dd_Mo_feed_1 : decode prog_13_method_31_code 1 = .ok (.getfield 156, 3) := by decide +kernel
theorem dd_Mo_feed_4 : decode prog_13_method_31_code 4 = .ok (.bipush 20, 2) := by decide +kernel
theorem dd_Mo_feed_6 : decode prog_13_method_31_code 6 = .ok (.iadd, 1) := by decide +kernel
theorem dd_Mo_feed_7 : decode prog_13_method_31_code 7 = .ok (.sipush 400, 3) := by decide +kernel
theorem dd_Mo_feed_10 : decode prog_13_method_31_code 10 = .ok (.if_icmp .le 5, 3) := by decide +kernel
theorem dd_Mo_feed_13 : decode prog_13_method_31_code 13 = .ok (.iconst (-1), 1) := by decide +kernel
theorem dd_Mo_feed_14 : decode prog_13_method_31_code 14 = .ok (.ireturn, 1) := by decide +kernel
theorem dd_Mo_feed_15 : decode prog_13_method_31_code 15 = .ok (.aload_n 0, 1) := by decide +kernel
theorem dd_Mo_feed_16 : decode prog_13_method_31_code 16 = .ok (.getfield 52, 3) := by decide +kernel
theorem dd_Mo_feed_19 : decode prog_13_method_31_code 19 = .ok (.iconst 0, 1) := by decide +kernel
theorem dd_Mo_feed_20 : decode prog_13_method_31_code 20 = .ok (.iload_n 1, 1) := by decide +kernel
theorem dd_Mo_feed_21 : decode prog_13_method_31_code 21 = .ok (.iastore, 1) := by decide +kernel
theorem dd_Mo_feed_22 : decode prog_13_method_31_code 22 = .ok (.aload_n 0, 1) := by decide +kernel
theorem dd_Mo_feed_23 : decode prog_13_method_31_code 23 = .ok (.getfield 52, 3) := by decide +kernel
theorem dd_Mo_feed_26 : decode prog_13_method_31_code 26 = .ok (.iconst 1, 1) := by decide +kernel
theorem dd_Mo_feed_27 : decode prog_13_method_31_code 27 = .ok (.iload_n 2, 1) := by decide +kernel
theorem dd_Mo_feed_28 : decode prog_13_method_31_code 28 = .ok (.iastore, 1) := by decide +kernel
theorem dd_Mo_feed_29 : decode prog_13_method_31_code 29 = .ok (.aload_n 0, 1) := by decide +kernel
theorem dd_Mo_feed_30 : decode prog_13_method_31_code 30 = .ok (.getfield 52, 3) := by decide +kernel
theorem dd_Mo_feed_33 : decode prog_13_method_31_code 33 = .ok (.iconst 2, 1) := by decide +kernel
theorem dd_Mo_feed_34 : decode prog_13_method_31_code 34 = .ok (.iload_n 3, 1) := by decide +kernel
theorem dd_Mo_feed_35 : decode prog_13_method_31_code 35 = .ok (.iastore, 1) := by decide +kernel
theorem dd_Mo_feed_36 : decode prog_13_method_31_code 36 = .ok (.aload_n 0, 1) := by decide +kernel
theorem dd_Mo_feed_37 : decode prog_13_method_31_code 37 = .ok (.getfield 52, 3) := by decide +kernel
theorem dd_Mo_feed_40 : decode prog_13_method_31_code 40 = .ok (.iconst 3, 1) := by decide +kernel
theorem dd_Mo_feed_41 : decode prog_13_method_31_code 41 = .ok (.iload 4, 2) := by decide +kernel
theorem dd_Mo_feed_43 : decode prog_13_method_31_code 43 = .ok (.iastore, 1) := by decide +kernel
theorem dd_Mo_feed_44 : decode prog_13_method_31_code 44 = .ok (.aload_n 0, 1) := by decide +kernel
theorem dd_Mo_feed_45 : decode prog_13_method_31_code 45 = .ok (.getfield 52, 3) := by decide +kernel
theorem dd_Mo_feed_48 : decode prog_13_method_31_code 48 = .ok (.iconst 4, 1) := by decide +kernel
theorem dd_Mo_feed_49 : decode prog_13_method_31_code 49 = .ok (.iload 5, 2) := by decide +kernel
theorem dd_Mo_feed_51 : decode prog_13_method_31_code 51 = .ok (.iastore, 1) := by decide +kernel
theorem dd_Mo_feed_52 : decode prog_13_method_31_code 52 = .ok (.iconst 0, 1) := by decide +kernel
theorem dd_Mo_feed_53 : decode prog_13_method_31_code 53 = .ok (.istore 6, 2) := by decide +kernel
theorem dd_Mo_feed_55 : decode prog_13_method_31_code 55 = .ok (.iload 6, 2) := by decide +kernel
theorem dd_Mo_feed_57 : decode prog_13_method_31_code 57 = .ok (.bipush 20, 2) := by decide +kernel
theorem dd_Mo_feed_59 : decode prog_13_method_31_code 59 = .ok (.if_icmp .ge 42, 3) := by decide +kernel
theorem dd_Mo_feed_62 : decode prog_13_method_31_code 62 = .ok (.aload_n 0, 1) := by decide +kernel
theorem dd_Mo_feed_63 : decode prog_13_method_31_code 63 = .ok (.getfield 49, 3) := by decide +kernel
theorem dd_Mo_feed_66 : decode prog_13_method_31_code 66 = .ok (.aload_n 0, 1) := by decide +kernel
theorem dd_Mo_feed_67 : decode prog_13_method_31_code 67 = .ok (.getfield 156, 3) := by decide +kernel
theorem dd_Mo_feed_70 : decode prog_13_method_31_code 70 = .ok (.iload 6, 2) := by decide +kernel
theorem dd_Mo_feed_72 : decode prog_13_method_31_code 72 = .ok (.iadd, 1) := by decide +kernel
theorem dd_Mo_feed_73 : decode prog_13_method_31_code 73 = .ok (.aload_n 0, 1) := by decide +kernel
theorem dd_Mo_feed_74 : decode prog_13_method_31_code 74 = .ok (.getfield 52, 3) := by decide +kernel
theorem dd_Mo_feed_77 : decode prog_13_method_31_code 77 = .ok (.iload 6, 2) := by decide +kernel
theorem dd_Mo_feed_79 : decode prog_13_method_31_code 79 = .ok (.iconst 4, 1) := by decide +kernel
theorem dd_Mo_feed_80 : decode prog_13_method_31_code 80 = .ok (.idiv, 1) := by decide +kernel
theorem dd_Mo_feed_81 : decode prog_13_method_31_code 81 = .ok (.iaload, 1) := by decide +kernel
theorem dd_Mo_feed_82 : decode prog_13_method_31_code 82 = .ok (.bipush 24, 2) := by decide +kernel
theorem dd_Mo_feed_84 : decode prog_13_method_31_code 84 = .ok (.bipush 8, 2) := by decide +kernel
theorem dd_Mo_feed_86 : decode prog_13_method_31_code 86 = .ok (.iload 6, 2) := by decide +kernel
theorem dd_Mo_feed_88 : decode prog_13_method_31_code 88 = .ok (.iconst 4, 1) := by decide +kernel
theorem dd_Mo_feed_89 : decode prog_13_method_31_code 89 = .ok (.irem, 1) := by decide +kernel
theorem dd_Mo_feed_90 : decode prog_13_method_31_code 90 = .ok (.imul, 1) := by decide +kernel
theorem dd_Mo_feed_91 : decode prog_13_method_31_code 91 = .ok (.isub, 1) := by decide +kernel
theorem dd_Mo_feed_92 : decode prog_13_method_31_code 92 = .ok (.ishr, 1) := by decide +kernel
theorem dd_Mo_feed_93 : decode prog_13_method_31_code 93 = .ok (.i2b, 1) := by decide +kernel
theorem dd_Mo_feed_94 : decode prog_13_method_31_code 94 = .ok (.bastore, 1) := by decide +kernel
theorem dd_Mo_feed_95 : decode prog_13_method_31_code 95 = .ok (.iinc 6 1, 3) := by decide +kernel
theorem dd_Mo_feed_98 : decode prog_13_method_31_code 98 = .ok (.goto (-43), 3) := by decide +kernel
theorem dd_Mo_feed_101 : decode prog_13_method_31_code 101 = .ok (.aload_n 0, 1) := by decide +kernel
theorem dd_Mo_feed_102 : decode prog_13_method_31_code 102 = .ok (.dup, 1) := by decide +kernel
theorem dd_Mo_feed_103 : decode prog_13_method_31_code 103 = .ok (.getfield 156, 3) := by decide +kernel
theorem dd_Mo_feed_106 : decode prog_13_method_31_code 106 = .ok (.bipush 20, 2) := by decide +kernel
theorem dd_Mo_feed_108 : decode prog_13_method_31_code 108 = .ok (.iadd, 1) := by decide +kernel
theorem dd_Mo_feed_109 : decode prog_13_method_31_code 109 = .ok (.putfield 156, 3) := by decide +kernel
theorem dd_Mo_feed_112 : decode prog_13_method_31_code 112 = .ok (.aload_n 0, 1) := by decide +kernel
theorem dd_Mo_feed_113 : decode prog_13_method_31_code 113 = .ok (.getfield 156, 3) := by decide +kernel
theorem dd_Mo_feed_116 : decode prog_13_method_31_code 116 = .ok (.ireturn, 1) := by decide +kernel
def jx_Mo_feed (p0 : Option Nat) (p1 : Int32) (p2 : Int32) (p3 : Int32) (p4 : Int32) (p5 : Int32) : sf_M (Int32) :=
  sf_bnd (sf_gI 11 13 p0) fun x1 =>
  if (x1 + (20 : Int32)) ≤ (400 : Int32) then (
  sf_bnd (sf_gR 11 12 p0) fun x3 =>
  sf_bnd (sf_sI 0 x3 (0 : Int32) p1) fun _ =>
  sf_bnd (sf_gR 11 12 p0) fun x4 =>
  sf_bnd (sf_sI 0 x4 (1 : Int32) p2) fun _ =>
  sf_bnd (sf_gR 11 12 p0) fun x5 =>
  sf_bnd (sf_sI 0 x5 (2 : Int32) p3) fun _ =>
  sf_bnd (sf_gR 11 12 p0) fun x6 =>
  sf_bnd (sf_sI 0 x6 (3 : Int32) p4) fun _ =>
  sf_bnd (sf_gR 11 12 p0) fun x7 =>
  sf_bnd (sf_sI 0 x7 (4 : Int32) p5) fun _ =>
  sf_bnd (sf_loop (β := (Int32)) (γ := (Unit)) (fun b8 =>
  if (20 : Int32) ≤ b8 then (
  sf_ret (.inr ())
  ) else (
  sf_bnd (sf_gR 11 11 p0) fun x10 =>
  sf_bnd (sf_gI 11 13 p0) fun x11 =>
  sf_bnd (sf_gR 11 12 p0) fun x12 =>
  sf_bnd (sf_aI 0 x12 (b8 / (4 : Int32))) fun x13 =>
  sf_bnd (sf_sI 2 x10 (x11 + b8) ((x13 >>> (((24 : Int32) - ((8 : Int32) * (b8 - b8 / (4 : Int32) * (4 : Int32)))) &&& 31)).toInt8.toInt32)) fun _ =>
  sf_bnd (sf_ret (b8 + (1 : Int32))) fun y14 =>
  sf_ret (.inl y14)
  )
  ) sf_fuel (0 : Int32)) (fun e15 =>
  sf_bnd (sf_gI 11 13 p0) fun x16 =>
  sf_bnd (sf_pI 11 13 p0 (x16 + (20 : Int32))) fun _ =>
  sf_bnd (sf_gI 11 13 p0) fun x17 =>
  sf_ret x17
  )
  ) else (
  sf_ret (-1 : Int32)
  )
set_option maxRecDepth 20000 in
set_option maxHeartbeats 4000000 in
theorem ok_Mo_feed (p0 : Option Nat) (p1 : Int32) (p2 : Int32) (p3 : Int32) (p4 : Int32) (p5 : Int32) : sf_Ok ({ cls := "SplitFaresModel", name := "feed", desc := "(IIIII)I" } : Jvm.MethodName) prog_13_method_31_code 7 (some .int) 0 [sf_rv p0, .int p1, .int p2, .int p3, .int p4, .int p5] (jx_Mo_feed p0 p1 p2 p3 p4 p5) (fun r => some (.int r)) := by
  refine sf_Ok.of (env := [some (sf_rv p0), some (.int p1), some (.int p2), some (.int p3), some (.int p4), some (.int p5), none]) (plainFor_of_name (by decide)) [false, false, false, false, false, false] (fun G => ⟨pk_r, pk_i, pk_i, pk_i, pk_i, pk_i, trivial⟩) (Nat.le_of_ble_eq_true rfl) rfl (fun X => ?_)
  unfold jx_Mo_feed
  refine fp_aload_n (i := 0) (r := p0) dd_Mo_feed_0 rfl rfl (fr_pc (pc' := 1) rfl ?_)
  refine fr_gI cl_11 13 (by decide) rfl sw_1085 dd_Mo_feed_1 (fun x1 => fr_pc (pc' := 4) rfl ?_)
  refine fp_bipush (v := (20 : Int32)) dd_Mo_feed_4 (by decide) (fr_pc (pc' := 6) rfl ?_)
  refine fp_iadd dd_Mo_feed_6 (fr_pc (pc' := 7) rfl ?_)
  refine fp_sipush (v := (400 : Int32)) dd_Mo_feed_7 (by decide) (fr_pc (pc' := 10) rfl ?_)
  refine fr_icmp_le (tgt := 15) dd_Mo_feed_10 rfl (fun _ => ?_) (fun _ => ?_)
  · refine fp_aload_n (i := 0) (r := p0) dd_Mo_feed_15 rfl rfl (fr_pc (pc' := 16) rfl ?_)
    refine fr_gR cl_11 12 (by decide) rfl sw_1084 dd_Mo_feed_16 (fun x3 => fr_pc (pc' := 19) rfl ?_)
    refine fp_iconst (v := (0 : Int32)) dd_Mo_feed_19 (by decide) (fr_pc (pc' := 20) rfl ?_)
    refine fp_iload_n (i := 1) (x := p1) dd_Mo_feed_20 rfl rfl (fr_pc (pc' := 21) rfl ?_)
    refine fr_sI0 dd_Mo_feed_21 (fr_pc (pc' := 22) rfl ?_)
    refine fp_aload_n (i := 0) (r := p0) dd_Mo_feed_22 rfl rfl (fr_pc (pc' := 23) rfl ?_)
    refine fr_gR cl_11 12 (by decide) rfl sw_1084 dd_Mo_feed_23 (fun x4 => fr_pc (pc' := 26) rfl ?_)
    refine fp_iconst (v := (1 : Int32)) dd_Mo_feed_26 (by decide) (fr_pc (pc' := 27) rfl ?_)
    refine fp_iload_n (i := 2) (x := p2) dd_Mo_feed_27 rfl rfl (fr_pc (pc' := 28) rfl ?_)
    refine fr_sI0 dd_Mo_feed_28 (fr_pc (pc' := 29) rfl ?_)
    refine fp_aload_n (i := 0) (r := p0) dd_Mo_feed_29 rfl rfl (fr_pc (pc' := 30) rfl ?_)
    refine fr_gR cl_11 12 (by decide) rfl sw_1084 dd_Mo_feed_30 (fun x5 => fr_pc (pc' := 33) rfl ?_)
    refine fp_iconst (v := (2 : Int32)) dd_Mo_feed_33 (by decide) (fr_pc (pc' := 34) rfl ?_)
    refine fp_iload_n (i := 3) (x := p3) dd_Mo_feed_34 rfl rfl (fr_pc (pc' := 35) rfl ?_)
    refine fr_sI0 dd_Mo_feed_35 (fr_pc (pc' := 36) rfl ?_)
    refine fp_aload_n (i := 0) (r := p0) dd_Mo_feed_36 rfl rfl (fr_pc (pc' := 37) rfl ?_)
    refine fr_gR cl_11 12 (by decide) rfl sw_1084 dd_Mo_feed_37 (fun x6 => fr_pc (pc' := 40) rfl ?_)
    refine fp_iconst (v := (3 : Int32)) dd_Mo_feed_40 (by decide) (fr_pc (pc' := 41) rfl ?_)
    refine fp_iload (i := 4) (x := p4) dd_Mo_feed_41 rfl (fr_pc (pc' := 43) rfl ?_)
    refine fr_sI0 dd_Mo_feed_43 (fr_pc (pc' := 44) rfl ?_)
    refine fp_aload_n (i := 0) (r := p0) dd_Mo_feed_44 rfl rfl (fr_pc (pc' := 45) rfl ?_)
    refine fr_gR cl_11 12 (by decide) rfl sw_1084 dd_Mo_feed_45 (fun x7 => fr_pc (pc' := 48) rfl ?_)
    refine fp_iconst (v := (4 : Int32)) dd_Mo_feed_48 (by decide) (fr_pc (pc' := 49) rfl ?_)
    refine fp_iload (i := 5) (x := p5) dd_Mo_feed_49 rfl (fr_pc (pc' := 51) rfl ?_)
    refine fr_sI0 dd_Mo_feed_51 (fr_pc (pc' := 52) rfl ?_)
    refine fp_iconst (v := (0 : Int32)) dd_Mo_feed_52 (by decide) (fr_pc (pc' := 53) rfl ?_)
    refine fp_istore (i := 6) dd_Mo_feed_53 (Nat.le_of_ble_eq_true rfl) (fun _ => c1_i rfl) (fr_to (pc' := 55) (env' := [some (sf_rv p0), some (.int p1), some (.int p2), some (.int p3), some (.int p4), some (.int p5), some (.int (0 : Int32))]) (stk' := []) rfl rfl rfl ?_)
    refine fr_to (pc' := 55) (env' := [some (sf_rv p0), some (.int p1), some (.int p2), some (.int p3), some (.int p4), some (.int p5), some (.int (0 : Int32))]) (stk' := []) rfl rfl rfl ?_
    refine fr_bnd (l1 := (fun (e15 : (Unit)) => sf_p 101 [some (sf_rv p0), some (.int p1), some (.int p2), some (.int p3), some (.int p4), some (.int p5), none] [])) (fr_loop (Lb := (fun (b8 : (Int32)) => sf_p 55 [some (sf_rv p0), some (.int p1), some (.int p2), some (.int p3), some (.int p4), some (.int p5), some (.int b8)] [])) (fun b8 => ?_) _ _) (fun e15 => ?_)
    · refine fp_iload (i := 6) (x := b8) dd_Mo_feed_55 rfl (fr_pc (pc' := 57) rfl ?_)
      refine fp_bipush (v := (20 : Int32)) dd_Mo_feed_57 (by decide) (fr_pc (pc' := 59) rfl ?_)
      refine fr_icmp_ge (tgt := 101) dd_Mo_feed_59 rfl (fun _ => ?_) (fun _ => ?_)
      · refine fr_wk [true, true, true, true, true, true, false] ?_
        exact fr_ret rfl
      · refine fr_pc (pc' := 62) rfl ?_
        refine fp_aload_n (i := 0) (r := p0) dd_Mo_feed_62 rfl rfl (fr_pc (pc' := 63) rfl ?_)
        refine fr_gR cl_11 11 (by decide) rfl sw_1083 dd_Mo_feed_63 (fun x10 => fr_pc (pc' := 66) rfl ?_)
        refine fp_aload_n (i := 0) (r := p0) dd_Mo_feed_66 rfl rfl (fr_pc (pc' := 67) rfl ?_)
        refine fr_gI cl_11 13 (by decide) rfl sw_1085 dd_Mo_feed_67 (fun x11 => fr_pc (pc' := 70) rfl ?_)
        refine fp_iload (i := 6) (x := b8) dd_Mo_feed_70 rfl (fr_pc (pc' := 72) rfl ?_)
        refine fp_iadd dd_Mo_feed_72 (fr_pc (pc' := 73) rfl ?_)
        refine fp_aload_n (i := 0) (r := p0) dd_Mo_feed_73 rfl rfl (fr_pc (pc' := 74) rfl ?_)
        refine fr_gR cl_11 12 (by decide) rfl sw_1084 dd_Mo_feed_74 (fun x12 => fr_pc (pc' := 77) rfl ?_)
        refine fp_iload (i := 6) (x := b8) dd_Mo_feed_77 rfl (fr_pc (pc' := 79) rfl ?_)
        refine fp_iconst (v := (4 : Int32)) dd_Mo_feed_79 (by decide) (fr_pc (pc' := 80) rfl ?_)
        refine fp_idiv0 dd_Mo_feed_80 (by decide) (fr_pc (pc' := 81) rfl ?_)
        refine fr_aI0 dd_Mo_feed_81 (fun x13 => fr_pc (pc' := 82) rfl ?_)
        refine fp_bipush (v := (24 : Int32)) dd_Mo_feed_82 (by decide) (fr_pc (pc' := 84) rfl ?_)
        refine fp_bipush (v := (8 : Int32)) dd_Mo_feed_84 (by decide) (fr_pc (pc' := 86) rfl ?_)
        refine fp_iload (i := 6) (x := b8) dd_Mo_feed_86 rfl (fr_pc (pc' := 88) rfl ?_)
        refine fp_iconst (v := (4 : Int32)) dd_Mo_feed_88 (by decide) (fr_pc (pc' := 89) rfl ?_)
        refine fp_irem0 dd_Mo_feed_89 (by decide) (fr_pc (pc' := 90) rfl ?_)
        refine fp_imul dd_Mo_feed_90 (fr_pc (pc' := 91) rfl ?_)
        refine fp_isub dd_Mo_feed_91 (fr_pc (pc' := 92) rfl ?_)
        refine fp_ishr dd_Mo_feed_92 (fr_pc (pc' := 93) rfl ?_)
        refine fp_i2b dd_Mo_feed_93 (fr_pc (pc' := 94) rfl ?_)
        refine fr_sI2 dd_Mo_feed_94 (fr_pc (pc' := 95) rfl ?_)
        refine fr_niinc (i := 6) (x := b8) (w := (1 : Int32)) dd_Mo_feed_95 rfl (by decide) (Nat.le_of_ble_eq_true rfl) (fun _ => c1_i rfl) (fun y14 => fr_to (pc' := 98) (env' := [some (sf_rv p0), some (.int p1), some (.int p2), some (.int p3), some (.int p4), some (.int p5), some (.int y14)]) (stk' := []) rfl rfl rfl ?_)
        refine fp_goto (tgt := 55) dd_Mo_feed_98 rfl ?_
        exact fr_ret rfl
    · refine fp_aload_n (i := 0) (r := p0) dd_Mo_feed_101 rfl rfl (fr_pc (pc' := 102) rfl ?_)
      refine fp_dup_r dd_Mo_feed_102 (fr_pc (pc' := 103) rfl ?_)
      refine fr_gI cl_11 13 (by decide) rfl sw_1085 dd_Mo_feed_103 (fun x16 => fr_pc (pc' := 106) rfl ?_)
      refine fp_bipush (v := (20 : Int32)) dd_Mo_feed_106 (by decide) (fr_pc (pc' := 108) rfl ?_)
      refine fp_iadd dd_Mo_feed_108 (fr_pc (pc' := 109) rfl ?_)
      refine fr_pI cl_11 13 (by decide) rfl sw_1085 rfl ⟨rfl, rfl⟩ dd_Mo_feed_109 (fr_pc (pc' := 112) rfl ?_)
      refine fp_aload_n (i := 0) (r := p0) dd_Mo_feed_112 rfl rfl (fr_pc (pc' := 113) rfl ?_)
      refine fr_gI cl_11 13 (by decide) rfl sw_1085 dd_Mo_feed_113 (fun x17 => fr_pc (pc' := 116) rfl ?_)
      exact fr_iret (v := x17) rfl rfl dd_Mo_feed_116
  · refine fr_pc (pc' := 13) rfl ?_
    refine fp_iconst (v := (-1 : Int32)) dd_Mo_feed_13 (by decide) (fr_pc (pc' := 14) rfl ?_)
    exact fr_iret (v := (-1 : Int32)) rfl rfl dd_Mo_feed_14
theorem mt_Mo_end : sf_Mt ({ cls := "SplitFaresModel", name := "end", desc := "(I)I" } : Jvm.MethodName) prog_13_method_32_code 2 (some .int) 1 := ⟨sw_1319, sw_12, ⟨by decide, by decide, by decide +kernel⟩, by decide⟩
theorem dd_Mo_end_0 : decode prog_13_method_32_code 0 = .ok (.iload_n 1, 1) := by decide +kernel
theorem dd_Mo_end_1 : decode prog_13_method_32_code 1 = .ok (.iconst 0, 1) := by decide +kernel
theorem dd_Mo_end_2 : decode prog_13_method_32_code 2 = .ok (.aload_n 0, 1) := by decide +kernel
theorem dd_Mo_end_3 : decode prog_13_method_32_code 3 = .ok (.getfield 156, 3) := by decide +kernel
theorem dd_Mo_end_6 : decode prog_13_method_32_code 6 = .ok (.invokestatic 18, 3) := by decide +kernel
theorem dd_Mo_end_9 : decode prog_13_method_32_code 9 = .ok (.ifCond .ne 5, 3) := by decide +kernel
theorem dd_Mo_end_12 : decode prog_13_method_32_code 12 = .ok (.iconst (-1), 1) := by decide +kernel
theorem dd_Mo_end_13 : decode prog_13_method_32_code 13 = .ok (.ireturn, 1) := by decide +kernel
theorem dd_Mo_end_14 : decode prog_13_method_32_code 14 = .ok (.aload_n 0, 1) := by decide +kernel
theorem dd_Mo_end_15 : decode prog_13_method_32_code 15 = .ok (.iload_n 1, 1) := by decide +kernel
theorem dd_Mo_end_16 : decode prog_13_method_32_code 16 = .ok (.putfield 156, 3) := by decide +kernel
theorem dd_Mo_end_19 : decode prog_13_method_32_code 19 = .ok (.iload_n 1, 1) := by decide +kernel
theorem dd_Mo_end_20 : decode prog_13_method_32_code 20 = .ok (.ireturn, 1) := by decide +kernel
def jx_Mo_end (p0 : Option Nat) (p1 : Int32) : sf_M (Int32) :=
  sf_bnd (sf_gI 11 13 p0) fun x1 =>
  sf_bnd (jx_Mo_lies p1 (0 : Int32) x1) fun x2 =>
  if x2 = 0 then (
  sf_ret (-1 : Int32)
  ) else (
  sf_bnd (sf_pI 11 13 p0 p1) fun _ =>
  sf_ret p1
  )
set_option maxRecDepth 20000 in
set_option maxHeartbeats 4000000 in
theorem ok_Mo_end (p0 : Option Nat) (p1 : Int32) : sf_Ok ({ cls := "SplitFaresModel", name := "end", desc := "(I)I" } : Jvm.MethodName) prog_13_method_32_code 2 (some .int) 1 [sf_rv p0, .int p1] (jx_Mo_end p0 p1) (fun r => some (.int r)) := by
  refine sf_Ok.of (env := [some (sf_rv p0), some (.int p1)]) (plainFor_of_name (by decide)) [false, false] (fun G => ⟨pk_r, pk_i, trivial⟩) (Nat.le_of_ble_eq_true rfl) rfl (fun X => ?_)
  unfold jx_Mo_end
  refine fp_iload_n (i := 1) (x := p1) dd_Mo_end_0 rfl rfl (fr_pc (pc' := 1) rfl ?_)
  refine fp_iconst (v := (0 : Int32)) dd_Mo_end_1 (by decide) (fr_pc (pc' := 2) rfl ?_)
  refine fp_aload_n (i := 0) (r := p0) dd_Mo_end_2 rfl rfl (fr_pc (pc' := 3) rfl ?_)
  refine fr_gI cl_11 13 (by decide) rfl sw_1085 dd_Mo_end_3 (fun x1 => fr_pc (pc' := 6) rfl ?_)
  refine fr_callS (stk := []) (ok_Mo_lies p1 (0 : Int32) x1) mt_Mo_lies rfl rfl sw_1237 sw_1238 (by decide) (Nat.le_of_ble_eq_true rfl) dd_Mo_end_6 (fun x2 => fr_to (pc' := 9) (env' := [some (sf_rv p0), some (.int p1)]) (stk' := [.int x2]) rfl rfl rfl ?_)
  refine fr_if_ne (tgt := 14) dd_Mo_end_9 rfl (fun _ => ?_) (fun _ => ?_)
  · refine fr_pc (pc' := 12) rfl ?_
    refine fp_iconst (v := (-1 : Int32)) dd_Mo_end_12 (by decide) (fr_pc (pc' := 13) rfl ?_)
    exact fr_iret (v := (-1 : Int32)) rfl rfl dd_Mo_end_13
  · refine fp_aload_n (i := 0) (r := p0) dd_Mo_end_14 rfl rfl (fr_pc (pc' := 15) rfl ?_)
    refine fp_iload_n (i := 1) (x := p1) dd_Mo_end_15 rfl rfl (fr_pc (pc' := 16) rfl ?_)
    refine fr_pI cl_11 13 (by decide) rfl sw_1085 rfl ⟨rfl, rfl⟩ dd_Mo_end_16 (fr_pc (pc' := 19) rfl ?_)
    refine fp_iload_n (i := 1) (x := p1) dd_Mo_end_19 rfl rfl (fr_pc (pc' := 20) rfl ?_)
    exact fr_iret (v := p1) rfl rfl dd_Mo_end_20
theorem mt_Mo_isSmall : sf_Mt ({ cls := "SplitFaresModel", name := "isSmall", desc := "(I)Z" } : Jvm.MethodName) prog_13_method_33_code 1 (some .boolean) 1 := ⟨sw_1338, sw_12, ⟨by decide, by decide, by decide +kernel⟩, by decide⟩
theorem dd_Mo_isSmall_0 : decode prog_13_method_33_code 0 = .ok (.iload_n 0, 1) := by decide +kernel
theorem dd_Mo_isSmall_1 : decode prog_13_method_33_code 1 = .ok (.bipush 97, 2) := by decide +kernel
theorem dd_Mo_isSmall_3 : decode prog_13_method_33_code 3 = .ok (.if_icmp .lt 13, 3) := by decide +kernel
theorem dd_Mo_isSmall_6 : decode prog_13_method_33_code 6 = .ok (.iload_n 0, 1) := by decide +kernel
theorem dd_Mo_isSmall_7 : decode prog_13_method_33_code 7 = .ok (.bipush 122, 2) := by decide +kernel
theorem dd_Mo_isSmall_9 : decode prog_13_method_33_code 9 = .ok (.if_icmp .gt 7, 3) := by decide +kernel
theorem dd_Mo_isSmall_12 : decode prog_13_method_33_code 12 = .ok (.iconst 1, 1) := by decide +kernel
theorem dd_Mo_isSmall_13 : decode prog_13_method_33_code 13 = .ok (.goto 4, 3) := by decide +kernel
theorem dd_Mo_isSmall_16 : decode prog_13_method_33_code 16 = .ok (.iconst 0, 1) := by decide +kernel
theorem dd_Mo_isSmall_17 : decode prog_13_method_33_code 17 = .ok (.ireturn, 1) := by decide +kernel
def jx_Mo_isSmall (p0 : Int32) : sf_M (Int32) :=
  if p0 < (97 : Int32) then (
  sf_ret (0 : Int32)
  ) else (
  if (122 : Int32) < p0 then (
  sf_ret (0 : Int32)
  ) else (
  sf_ret (1 : Int32)
  )
  )
set_option maxRecDepth 20000 in
set_option maxHeartbeats 4000000 in
theorem ok_Mo_isSmall (p0 : Int32) : sf_Ok ({ cls := "SplitFaresModel", name := "isSmall", desc := "(I)Z" } : Jvm.MethodName) prog_13_method_33_code 1 (some .boolean) 0 [.int p0] (jx_Mo_isSmall p0) (fun r => some (.int r)) := by
  refine sf_Ok.of (env := [some (.int p0)]) (plainFor_of_name (by decide)) [false] (fun G => ⟨pk_i, trivial⟩) (Nat.le_of_ble_eq_true rfl) rfl (fun X => ?_)
  unfold jx_Mo_isSmall
  refine fp_iload_n (i := 0) (x := p0) dd_Mo_isSmall_0 rfl rfl (fr_pc (pc' := 1) rfl ?_)
  refine fp_bipush (v := (97 : Int32)) dd_Mo_isSmall_1 (by decide) (fr_pc (pc' := 3) rfl ?_)
  refine fr_icmp_lt (tgt := 16) dd_Mo_isSmall_3 rfl (fun _ => ?_) (fun _ => ?_)
  · refine fp_iconst (v := (0 : Int32)) dd_Mo_isSmall_16 (by decide) (fr_pc (pc' := 17) rfl ?_)
    exact fr_zret0 (v := (0 : Int32)) (Or.inl rfl) rfl rfl dd_Mo_isSmall_17
  · refine fr_pc (pc' := 6) rfl ?_
    refine fp_iload_n (i := 0) (x := p0) dd_Mo_isSmall_6 rfl rfl (fr_pc (pc' := 7) rfl ?_)
    refine fp_bipush (v := (122 : Int32)) dd_Mo_isSmall_7 (by decide) (fr_pc (pc' := 9) rfl ?_)
    refine fr_icmp_gt (tgt := 16) dd_Mo_isSmall_9 rfl (fun _ => ?_) (fun _ => ?_)
    · refine fp_iconst (v := (0 : Int32)) dd_Mo_isSmall_16 (by decide) (fr_pc (pc' := 17) rfl ?_)
      exact fr_zret0 (v := (0 : Int32)) (Or.inl rfl) rfl rfl dd_Mo_isSmall_17
    · refine fr_pc (pc' := 12) rfl ?_
      refine fp_iconst (v := (1 : Int32)) dd_Mo_isSmall_12 (by decide) (fr_pc (pc' := 13) rfl ?_)
      refine fp_goto (tgt := 17) dd_Mo_isSmall_13 rfl ?_
      exact fr_zret0 (v := (1 : Int32)) (Or.inr rfl) rfl rfl dd_Mo_isSmall_17
theorem mt_Mo_isDigit : sf_Mt ({ cls := "SplitFaresModel", name := "isDigit", desc := "(I)Z" } : Jvm.MethodName) prog_13_method_34_code 1 (some .boolean) 1 := ⟨sw_1341, sw_12, ⟨by decide, by decide, by decide +kernel⟩, by decide⟩
theorem dd_Mo_isDigit_0 : decode prog_13_method_34_code 0 = .ok (.iload_n 0, 1) := by decide +kernel
theorem dd_Mo_isDigit_1 : decode prog_13_method_34_code 1 = .ok (.bipush 48, 2) := by decide +kernel
theorem dd_Mo_isDigit_3 : decode prog_13_method_34_code 3 = .ok (.if_icmp .lt 13, 3) := by decide +kernel
theorem dd_Mo_isDigit_6 : decode prog_13_method_34_code 6 = .ok (.iload_n 0, 1) := by decide +kernel
theorem dd_Mo_isDigit_7 : decode prog_13_method_34_code 7 = .ok (.bipush 57, 2) := by decide +kernel
theorem dd_Mo_isDigit_9 : decode prog_13_method_34_code 9 = .ok (.if_icmp .gt 7, 3) := by decide +kernel
theorem dd_Mo_isDigit_12 : decode prog_13_method_34_code 12 = .ok (.iconst 1, 1) := by decide +kernel
theorem dd_Mo_isDigit_13 : decode prog_13_method_34_code 13 = .ok (.goto 4, 3) := by decide +kernel
theorem dd_Mo_isDigit_16 : decode prog_13_method_34_code 16 = .ok (.iconst 0, 1) := by decide +kernel
theorem dd_Mo_isDigit_17 : decode prog_13_method_34_code 17 = .ok (.ireturn, 1) := by decide +kernel
def jx_Mo_isDigit (p0 : Int32) : sf_M (Int32) :=
  if p0 < (48 : Int32) then (
  sf_ret (0 : Int32)
  ) else (
  if (57 : Int32) < p0 then (
  sf_ret (0 : Int32)
  ) else (
  sf_ret (1 : Int32)
  )
  )
set_option maxRecDepth 20000 in
set_option maxHeartbeats 4000000 in
theorem ok_Mo_isDigit (p0 : Int32) : sf_Ok ({ cls := "SplitFaresModel", name := "isDigit", desc := "(I)Z" } : Jvm.MethodName) prog_13_method_34_code 1 (some .boolean) 0 [.int p0] (jx_Mo_isDigit p0) (fun r => some (.int r)) := by
  refine sf_Ok.of (env := [some (.int p0)]) (plainFor_of_name (by decide)) [false] (fun G => ⟨pk_i, trivial⟩) (Nat.le_of_ble_eq_true rfl) rfl (fun X => ?_)
  unfold jx_Mo_isDigit
  refine fp_iload_n (i := 0) (x := p0) dd_Mo_isDigit_0 rfl rfl (fr_pc (pc' := 1) rfl ?_)
  refine fp_bipush (v := (48 : Int32)) dd_Mo_isDigit_1 (by decide) (fr_pc (pc' := 3) rfl ?_)
  refine fr_icmp_lt (tgt := 16) dd_Mo_isDigit_3 rfl (fun _ => ?_) (fun _ => ?_)
  · refine fp_iconst (v := (0 : Int32)) dd_Mo_isDigit_16 (by decide) (fr_pc (pc' := 17) rfl ?_)
    exact fr_zret0 (v := (0 : Int32)) (Or.inl rfl) rfl rfl dd_Mo_isDigit_17
  · refine fr_pc (pc' := 6) rfl ?_
    refine fp_iload_n (i := 0) (x := p0) dd_Mo_isDigit_6 rfl rfl (fr_pc (pc' := 7) rfl ?_)
    refine fp_bipush (v := (57 : Int32)) dd_Mo_isDigit_7 (by decide) (fr_pc (pc' := 9) rfl ?_)
    refine fr_icmp_gt (tgt := 16) dd_Mo_isDigit_9 rfl (fun _ => ?_) (fun _ => ?_)
    · refine fp_iconst (v := (0 : Int32)) dd_Mo_isDigit_16 (by decide) (fr_pc (pc' := 17) rfl ?_)
      exact fr_zret0 (v := (0 : Int32)) (Or.inl rfl) rfl rfl dd_Mo_isDigit_17
    · refine fr_pc (pc' := 12) rfl ?_
      refine fp_iconst (v := (1 : Int32)) dd_Mo_isDigit_12 (by decide) (fr_pc (pc' := 13) rfl ?_)
      refine fp_goto (tgt := 17) dd_Mo_isDigit_13 rfl ?_
      exact fr_zret0 (v := (1 : Int32)) (Or.inr rfl) rfl rfl dd_Mo_isDigit_17
theorem mt_Mo_wordOf : sf_Mt ({ cls := "SplitFaresModel", name := "wordOf", desc := "(II)I" } : Jvm.MethodName) prog_13_method_35_code 8 (some .int) 2 := ⟨sw_1345, sw_12, ⟨by decide, by decide, by decide +kernel⟩, by decide⟩
theorem dd_Mo_wordOf_0 : decode prog_13_method_35_code 0 = .ok (.iconst 1, 1) := by decide +kernel
theorem dd_Mo_wordOf_1 : decode prog_13_method_35_code 1 = .ok (.istore_n 3, 1) := by decide +kernel
theorem dd_Mo_wordOf_2 : decode prog_13_method_35_code 2 = .ok (.iconst 0, 1) := by decide +kernel
theorem dd_Mo_wordOf_3 : decode prog_13_method_35_code 3 = .ok (.istore 4, 2) := by decide +kernel
theorem dd_Mo_wordOf_5 : decode prog_13_method_35_code 5 = .ok (.iload 4, 2) := by decide +kernel
theorem dd_Mo_wordOf_7 : decode prog_13_method_35_code 7 = .ok (.aload_n 0, 1) := by decide +kernel
theorem dd_Mo_wordOf_8 : decode prog_13_method_35_code 8 = .ok (.getfield 45, 3) := by decide +kernel
theorem dd_Mo_wordOf_11 : decode prog_13_method_35_code 11 = .ok (.arraylength, 1) := by decide +kernel
theorem dd_Mo_wordOf_12 : decode prog_13_method_35_code 12 = .ok (.if_icmp .ge 114, 3) := by decide +kernel
theorem dd_Mo_wordOf_15 : decode prog_13_method_35_code 15 = .ok (.iconst 0, 1) := by decide +kernel
theorem dd_Mo_wordOf_16 : decode prog_13_method_35_code 16 = .ok (.istore 5, 2) := by decide +kernel
theorem dd_Mo_wordOf_18 : decode prog_13_method_35_code 18 = .ok (.aload_n 0, 1) := by decide +kernel
theorem dd_Mo_wordOf_19 : decode prog_13_method_35_code 19 = .ok (.getfield 45, 3) := by decide +kernel
theorem dd_Mo_wordOf_22 : decode prog_13_method_35_code 22 = .ok (.iload 4, 2) := by decide +kernel
theorem dd_Mo_wordOf_24 : decode prog_13_method_35_code 24 = .ok (.iload 5, 2) := by decide +kernel
theorem dd_Mo_wordOf_26 : decode prog_13_method_35_code 26 = .ok (.iadd, 1) := by decide +kernel
theorem dd_Mo_wordOf_27 : decode prog_13_method_35_code 27 = .ok (.baload, 1) := by decide +kernel
theorem dd_Mo_wordOf_28 : decode prog_13_method_35_code 28 = .ok (.bipush 32, 2) := by decide +kernel
theorem dd_Mo_wordOf_30 : decode prog_13_method_35_code 30 = .ok (.if_icmp .eq 9, 3) := by decide +kernel
theorem dd_Mo_wordOf_33 : decode prog_13_method_35_code 33 = .ok (.iinc 5 1, 3) := by decide +kernel
theorem dd_Mo_wordOf_36 : decode prog_13_method_35_code 36 = .ok (.goto (-18), 3) := by decide +kernel
theorem dd_Mo_wordOf_39 : decode prog_13_method_35_code 39 = .ok (.iload 5, 2) := by decide +kernel
theorem dd_Mo_wordOf_41 : decode prog_13_method_35_code 41 = .ok (.iload_n 2, 1) := by decide +kernel
theorem dd_Mo_wordOf_42 : decode prog_13_method_35_code 42 = .ok (.iload_n 1, 1) := by decide +kernel
theorem dd_Mo_wordOf_43 : decode prog_13_method_35_code 43 = .ok (.isub, 1) := by decide +kernel
theorem dd_Mo_wordOf_44 : decode prog_13_method_35_code 44 = .ok (.if_icmp .ne 7, 3) := by decide +kernel
theorem dd_Mo_wordOf_47 : decode prog_13_method_35_code 47 = .ok (.iconst 1, 1) := by decide +kernel
theorem dd_Mo_wordOf_48 : decode prog_13_method_35_code 48 = .ok (.goto 4, 3) := by decide +kernel
theorem dd_Mo_wordOf_51 : decode prog_13_method_35_code 51 = .ok (.iconst 0, 1) := by decide +kernel
theorem dd_Mo_wordOf_52 : decode prog_13_method_35_code 52 = .ok (.istore 6, 2) := by decide +kernel
theorem dd_Mo_wordOf_54 : decode prog_13_method_35_code 54 = .ok (.iconst 0, 1) := by decide +kernel
theorem dd_Mo_wordOf_55 : decode prog_13_method_35_code 55 = .ok (.istore 7, 2) := by decide +kernel
theorem dd_Mo_wordOf_57 : decode prog_13_method_35_code 57 = .ok (.iload 7, 2) := by decide +kernel
theorem dd_Mo_wordOf_59 : decode prog_13_method_35_code 59 = .ok (.iload 5, 2) := by decide +kernel
theorem dd_Mo_wordOf_61 : decode prog_13_method_35_code 61 = .ok (.if_icmp .ge 43, 3) := by decide +kernel
theorem dd_Mo_wordOf_64 : decode prog_13_method_35_code 64 = .ok (.iload 6, 2) := by decide +kernel
theorem dd_Mo_wordOf_66 : decode prog_13_method_35_code 66 = .ok (.ifCond .eq 38, 3) := by decide +kernel
theorem dd_Mo_wordOf_69 : decode prog_13_method_35_code 69 = .ok (.aload_n 0, 1) := by decide +kernel
theorem dd_Mo_wordOf_70 : decode prog_13_method_35_code 70 = .ok (.getfield 45, 3) := by decide +kernel
theorem dd_Mo_wordOf_73 : decode prog_13_method_35_code 73 = .ok (.iload 4, 2) := by decide +kernel
theorem dd_Mo_wordOf_75 : decode prog_13_method_35_code 75 = .ok (.iload 7, 2) := by decide +kernel
theorem dd_Mo_wordOf_77 : decode prog_13_method_35_code 77 = .ok (.iadd, 1) := by decide +kernel
theorem dd_Mo_wordOf_78 : decode prog_13_method_35_code 78 = .ok (.baload, 1) := by decide +kernel
theorem dd_Mo_wordOf_79 : decode prog_13_method_35_code 79 = .ok (.aload_n 0, 1) := by decide +kernel
theorem dd_Mo_wordOf_80 : decode prog_13_method_35_code 80 = .ok (.getfield 49, 3) := by decide +kernel
theorem dd_Mo_wordOf_83 : decode prog_13_method_35_code 83 = .ok (.iload_n 1, 1) := by decide +kernel
theorem dd_Mo_wordOf_84 : decode prog_13_method_35_code 84 = .ok (.iload 7, 2) := by decide +kernel
theorem dd_Mo_wordOf_86 : decode prog_13_method_35_code 86 = .ok (.iadd, 1) := by decide +kernel
theorem dd_Mo_wordOf_87 : decode prog_13_method_35_code 87 = .ok (.baload, 1) := by decide +kernel
theorem dd_Mo_wordOf_88 : decode prog_13_method_35_code 88 = .ok (.if_icmp .ne 7, 3) := by decide +kernel
theorem dd_Mo_wordOf_91 : decode prog_13_method_35_code 91 = .ok (.iconst 1, 1) := by decide +kernel
theorem dd_Mo_wordOf_92 : decode prog_13_method_35_code 92 = .ok (.goto 4, 3) := by decide +kernel
theorem dd_Mo_wordOf_95 : decode prog_13_method_35_code 95 = .ok (.iconst 0, 1) := by decide +kernel
theorem dd_Mo_wordOf_96 : decode prog_13_method_35_code 96 = .ok (.istore 6, 2) := by decide +kernel
theorem dd_Mo_wordOf_98 : decode prog_13_method_35_code 98 = .ok (.iinc 7 1, 3) := by decide +kernel
theorem dd_Mo_wordOf_101 : decode prog_13_method_35_code 101 = .ok (.goto (-44), 3) := by decide +kernel
theorem dd_Mo_wordOf_104 : decode prog_13_method_35_code 104 = .ok (.iload 6, 2) := by decide +kernel
theorem dd_Mo_wordOf_106 : decode prog_13_method_35_code 106 = .ok (.ifCond .eq 5, 3) := by decide +kernel
theorem dd_Mo_wordOf_109 : decode prog_13_method_35_code 109 = .ok (.iload_n 3, 1) := by decide +kernel
theorem dd_Mo_wordOf_110 : decode prog_13_method_35_code 110 = .ok (.ireturn, 1) := by decide +kernel
theorem dd_Mo_wordOf_111 : decode prog_13_method_35_code 111 = .ok (.iload 4, 2) := by decide +kernel
theorem dd_Mo_wordOf_113 : decode prog_13_method_35_code 113 = .ok (.iload 5, 2) := by decide +kernel
theorem dd_Mo_wordOf_115 : decode prog_13_method_35_code 115 = .ok (.iconst 1, 1) := by decide +kernel
theorem dd_Mo_wordOf_116 : decode prog_13_method_35_code 116 = .ok (.iadd, 1) := by decide +kernel
theorem dd_Mo_wordOf_117 : decode prog_13_method_35_code 117 = .ok (.iadd, 1) := by decide +kernel
theorem dd_Mo_wordOf_118 : decode prog_13_method_35_code 118 = .ok (.istore 4, 2) := by decide +kernel
theorem dd_Mo_wordOf_120 : decode prog_13_method_35_code 120 = .ok (.iinc 3 1, 3) := by decide +kernel
theorem dd_Mo_wordOf_123 : decode prog_13_method_35_code 123 = .ok (.goto (-118), 3) := by decide +kernel
theorem dd_Mo_wordOf_126 : decode prog_13_method_35_code 126 = .ok (.iconst 0, 1) := by decide +kernel
theorem dd_Mo_wordOf_127 : decode prog_13_method_35_code 127 = .ok (.ireturn, 1) := by decide +kernel
def jx_Mo_wordOf (p0 : Option Nat) (p1 : Int32) (p2 : Int32) : sf_M (Int32) :=
  sf_or (α := Int32) (β := (Unit)) (sf_loop (β := (Int32 × Int32)) (γ := (Int32 ⊕ (Unit))) (fun b1 =>
  sf_bnd (sf_gR 11 7 p0) fun x2 =>
  sf_bnd (sf_len x2) fun x3 =>
  if x3 ≤ b1.2 then (
  sf_ret (.inr (.inr ()))
  ) else (
  sf_bnd (sf_loop (β := (Int32)) (γ := (Int32)) (fun b5 =>
  sf_bnd (sf_gR 11 7 p0) fun x6 =>
  sf_bnd (sf_aI 2 x6 (b1.2 + b5)) fun x7 =>
  if x7 = (32 : Int32) then (
  sf_ret (.inr b5)
  ) else (
  sf_bnd (sf_ret (b5 + (1 : Int32))) fun y9 =>
  sf_ret (.inl y9)
  )
  ) sf_fuel (0 : Int32)) (fun e10 =>
  sf_bnd (α := (Int32)) (
  if e10 = (p2 - p1) then (
  sf_ret (1 : Int32)
  ) else (
  sf_ret (0 : Int32)
  )
  ) (fun v12 =>
  sf_bnd (sf_loop (β := (Int32 × Int32)) (γ := (Int32)) (fun b13 =>
  if e10 ≤ b13.2 then (
  sf_ret (.inr b13.1)
  ) else (
  if b13.1 = 0 then (
  sf_ret (.inr b13.1)
  ) else (
  sf_bnd (sf_gR 11 7 p0) fun x16 =>
  sf_bnd (sf_aI 2 x16 (b1.2 + b13.2)) fun x17 =>
  sf_bnd (sf_gR 11 11 p0) fun x18 =>
  sf_bnd (sf_aI 2 x18 (p1 + b13.2)) fun x19 =>
  if x17 = x19 then (
  sf_bnd (sf_ret (b13.2 + (1 : Int32))) fun y21 =>
  sf_ret (.inl ((1 : Int32), y21))
  ) else (
  sf_bnd (sf_ret (b13.2 + (1 : Int32))) fun y22 =>
  sf_ret (.inl ((0 : Int32), y22))
  )
  )
  )
  ) sf_fuel (v12, (0 : Int32))) (fun e23 =>
  if e23 = 0 then (
  sf_bnd (sf_ret ((b1.2 + (e10 + (1 : Int32))))) fun y25 =>
  sf_bnd (sf_ret (b1.1 + (1 : Int32))) fun y26 =>
  sf_ret (.inl (y26, y25))
  ) else (
  sf_ret (.inr (.inl b1.1))
  )
  )
  )
  )
  )
  ) sf_fuel ((1 : Int32), (0 : Int32))) (fun e27 =>
  sf_ret (0 : Int32)
  )
set_option maxRecDepth 20000 in
set_option maxHeartbeats 4000000 in
theorem ok_Mo_wordOf (p0 : Option Nat) (p1 : Int32) (p2 : Int32) : sf_Ok ({ cls := "SplitFaresModel", name := "wordOf", desc := "(II)I" } : Jvm.MethodName) prog_13_method_35_code 8 (some .int) 0 [sf_rv p0, .int p1, .int p2] (jx_Mo_wordOf p0 p1 p2) (fun r => some (.int r)) := by
  refine sf_Ok.of (env := [some (sf_rv p0), some (.int p1), some (.int p2), none, none, none, none, none]) (plainFor_of_name (by decide)) [false, false, false] (fun G => ⟨pk_r, pk_i, pk_i, trivial⟩) (Nat.le_of_ble_eq_true rfl) rfl (fun X => ?_)
  unfold jx_Mo_wordOf
  refine fp_iconst (v := (1 : Int32)) dd_Mo_wordOf_0 (by decide) (fr_pc (pc' := 1) rfl ?_)
  refine fp_istore_n (i := 3) dd_Mo_wordOf_1 rfl (Nat.le_of_ble_eq_true rfl) (fun _ => c1_i rfl) (fr_to (pc' := 2) (env' := [some (sf_rv p0), some (.int p1), some (.int p2), some (.int (1 : Int32)), none, none, none, none]) (stk' := []) rfl rfl rfl ?_)
  refine fp_iconst (v := (0 : Int32)) dd_Mo_wordOf_2 (by decide) (fr_pc (pc' := 3) rfl ?_)
  refine fp_istore (i := 4) dd_Mo_wordOf_3 (Nat.le_of_ble_eq_true rfl) (fun _ => c1_i rfl) (fr_to (pc' := 5) (env' := [some (sf_rv p0), some (.int p1), some (.int p2), some (.int (1 : Int32)), some (.int (0 : Int32)), none, none, none]) (stk' := []) rfl rfl rfl ?_)
  refine fr_to (pc' := 5) (env' := [some (sf_rv p0), some (.int p1), some (.int p2), some (.int (1 : Int32)), some (.int (0 : Int32)), none, none, none]) (stk' := []) rfl rfl rfl ?_
  refine fr_or (l1 := (fun (e27 : (Unit)) => sf_p 126 [some (sf_rv p0), some (.int p1), some (.int p2), none, none, none, none, none] [])) (fr_loop (Lb := (fun (b1 : (Int32 × Int32)) => sf_p 5 [some (sf_rv p0), some (.int p1), some (.int p2), some (.int b1.1), some (.int b1.2), none, none, none] [])) (fun b1 => ?_) _ _) (fun e27 => ?_)
  · refine fp_iload (i := 4) (x := b1.2) dd_Mo_wordOf_5 rfl (fr_pc (pc' := 7) rfl ?_)
    refine fp_aload_n (i := 0) (r := p0) dd_Mo_wordOf_7 rfl rfl (fr_pc (pc' := 8) rfl ?_)
    refine fr_gR cl_11 7 (by decide) rfl sw_1079 dd_Mo_wordOf_8 (fun x2 => fr_pc (pc' := 11) rfl ?_)
    refine fr_len dd_Mo_wordOf_11 (fun x3 => fr_pc (pc' := 12) rfl ?_)
    refine fr_icmp_ge (tgt := 126) dd_Mo_wordOf_12 rfl (fun _ => ?_) (fun _ => ?_)
    · refine fr_wk [true, true, true, false, false, false, false, false] ?_
      exact fr_ret rfl
    · refine fr_pc (pc' := 15) rfl ?_
      refine fp_iconst (v := (0 : Int32)) dd_Mo_wordOf_15 (by decide) (fr_pc (pc' := 16) rfl ?_)
      refine fp_istore (i := 5) dd_Mo_wordOf_16 (Nat.le_of_ble_eq_true rfl) (fun _ => c1_i rfl) (fr_to (pc' := 18) (env' := [some (sf_rv p0), some (.int p1), some (.int p2), some (.int b1.1), some (.int b1.2), some (.int (0 : Int32)), none, none]) (stk' := []) rfl rfl rfl ?_)
      refine fr_to (pc' := 18) (env' := [some (sf_rv p0), some (.int p1), some (.int p2), some (.int b1.1), some (.int b1.2), some (.int (0 : Int32)), none, none]) (stk' := []) rfl rfl rfl ?_
      refine fr_bnd (l1 := (fun (e10 : (Int32)) => sf_p 39 [some (sf_rv p0), some (.int p1), some (.int p2), some (.int b1.1), some (.int b1.2), some (.int e10), none, none] [])) (fr_loop (Lb := (fun (b5 : (Int32)) => sf_p 18 [some (sf_rv p0), some (.int p1), some (.int p2), some (.int b1.1), some (.int b1.2), some (.int b5), none, none] [])) (fun b5 => ?_) _ _) (fun e10 => ?_)
      · refine fp_aload_n (i := 0) (r := p0) dd_Mo_wordOf_18 rfl rfl (fr_pc (pc' := 19) rfl ?_)
        refine fr_gR cl_11 7 (by decide) rfl sw_1079 dd_Mo_wordOf_19 (fun x6 => fr_pc (pc' := 22) rfl ?_)
        refine fp_iload (i := 4) (x := b1.2) dd_Mo_wordOf_22 rfl (fr_pc (pc' := 24) rfl ?_)
        refine fp_iload (i := 5) (x := b5) dd_Mo_wordOf_24 rfl (fr_pc (pc' := 26) rfl ?_)
        refine fp_iadd dd_Mo_wordOf_26 (fr_pc (pc' := 27) rfl ?_)
        refine fr_aI2 dd_Mo_wordOf_27 (fun x7 => fr_pc (pc' := 28) rfl ?_)
        refine fp_bipush (v := (32 : Int32)) dd_Mo_wordOf_28 (by decide) (fr_pc (pc' := 30) rfl ?_)
        refine fr_icmp_eq (tgt := 39) dd_Mo_wordOf_30 rfl (fun _ => ?_) (fun _ => ?_)
        · exact fr_ret rfl
        · refine fr_pc (pc' := 33) rfl ?_
          refine fr_niinc (i := 5) (x := b5) (w := (1 : Int32)) dd_Mo_wordOf_33 rfl (by decide) (Nat.le_of_ble_eq_true rfl) (fun _ => c1_i rfl) (fun y9 => fr_to (pc' := 36) (env' := [some (sf_rv p0), some (.int p1), some (.int p2), some (.int b1.1), some (.int b1.2), some (.int y9), none, none]) (stk' := []) rfl rfl rfl ?_)
          refine fp_goto (tgt := 18) dd_Mo_wordOf_36 rfl ?_
          exact fr_ret rfl
      · refine fp_iload (i := 5) (x := e10) dd_Mo_wordOf_39 rfl (fr_pc (pc' := 41) rfl ?_)
        refine fp_iload_n (i := 2) (x := p2) dd_Mo_wordOf_41 rfl rfl (fr_pc (pc' := 42) rfl ?_)
        refine fp_iload_n (i := 1) (x := p1) dd_Mo_wordOf_42 rfl rfl (fr_pc (pc' := 43) rfl ?_)
        refine fp_isub dd_Mo_wordOf_43 (fr_pc (pc' := 44) rfl ?_)
        refine fr_bnd (l1 := (fun (v12 : (Int32)) => sf_p 52 [some (sf_rv p0), some (.int p1), some (.int p2), some (.int b1.1), some (.int b1.2), some (.int e10), none, none] [.int v12])) ?_ (fun v12 => ?_)
        · refine fr_icmp_ne (tgt := 51) dd_Mo_wordOf_44 rfl (fun _ => ?_) (fun _ => ?_)
          · refine fr_pc (pc' := 47) rfl ?_
            refine fp_iconst (v := (1 : Int32)) dd_Mo_wordOf_47 (by decide) (fr_pc (pc' := 48) rfl ?_)
            refine fp_goto (tgt := 52) dd_Mo_wordOf_48 rfl ?_
            exact fr_ret rfl
          · refine fp_iconst (v := (0 : Int32)) dd_Mo_wordOf_51 (by decide) (fr_pc (pc' := 52) rfl ?_)
            exact fr_ret rfl
        · refine fp_istore (i := 6) dd_Mo_wordOf_52 (Nat.le_of_ble_eq_true rfl) (fun _ => c1_i rfl) (fr_to (pc' := 54) (env' := [some (sf_rv p0), some (.int p1), some (.int p2), some (.int b1.1), some (.int b1.2), some (.int e10), some (.int v12), none]) (stk' := []) rfl rfl rfl ?_)
          refine fp_iconst (v := (0 : Int32)) dd_Mo_wordOf_54 (by decide) (fr_pc (pc' := 55) rfl ?_)
          refine fp_istore (i := 7) dd_Mo_wordOf_55 (Nat.le_of_ble_eq_true rfl) (fun _ => c1_i rfl) (fr_to (pc' := 57) (env' := [some (sf_rv p0), some (.int p1), some (.int p2), some (.int b1.1), some (.int b1.2), some (.int e10), some (.int v12), some (.int (0 : Int32))]) (stk' := []) rfl rfl rfl ?_)
          refine fr_to (pc' := 57) (env' := [some (sf_rv p0), some (.int p1), some (.int p2), some (.int b1.1), some (.int b1.2), some (.int e10), some (.int v12), some (.int (0 : Int32))]) (stk' := []) rfl rfl rfl ?_
          refine fr_bnd (l1 := (fun (e23 : (Int32)) => sf_p 104 [some (sf_rv p0), some (.int p1), some (.int p2), some (.int b1.1), some (.int b1.2), some (.int e10), some (.int e23), none] [])) (fr_loop (Lb := (fun (b13 : (Int32 × Int32)) => sf_p 57 [some (sf_rv p0), some (.int p1), some (.int p2), some (.int b1.1), some (.int b1.2), some (.int e10), some (.int b13.1), some (.int b13.2)] [])) (fun b13 => ?_) _ _) (fun e23 => ?_)
          · refine fp_iload (i := 7) (x := b13.2) dd_Mo_wordOf_57 rfl (fr_pc (pc' := 59) rfl ?_)
            refine fp_iload (i := 5) (x := e10) dd_Mo_wordOf_59 rfl (fr_pc (pc' := 61) rfl ?_)
            refine fr_icmp_ge (tgt := 104) dd_Mo_wordOf_61 rfl (fun _ => ?_) (fun _ => ?_)
            · refine fr_wk [true, true, true, true, true, true, true, false] ?_
              exact fr_ret rfl
            · refine fr_pc (pc' := 64) rfl ?_
              refine fp_iload (i := 6) (x := b13.1) dd_Mo_wordOf_64 rfl (fr_pc (pc' := 66) rfl ?_)
              refine fr_if_eq (tgt := 104) dd_Mo_wordOf_66 rfl (fun _ => ?_) (fun _ => ?_)
              · refine fr_wk [true, true, true, true, true, true, true, false] ?_
                exact fr_ret rfl
              · refine fr_pc (pc' := 69) rfl ?_
                refine fp_aload_n (i := 0) (r := p0) dd_Mo_wordOf_69 rfl rfl (fr_pc (pc' := 70) rfl ?_)
                refine fr_gR cl_11 7 (by decide) rfl sw_1079 dd_Mo_wordOf_70 (fun x16 => fr_pc (pc' := 73) rfl ?_)
                refine fp_iload (i := 4) (x := b1.2) dd_Mo_wordOf_73 rfl (fr_pc (pc' := 75) rfl ?_)
                refine fp_iload (i := 7) (x := b13.2) dd_Mo_wordOf_75 rfl (fr_pc (pc' := 77) rfl ?_)
                refine fp_iadd dd_Mo_wordOf_77 (fr_pc (pc' := 78) rfl ?_)
                refine fr_aI2 dd_Mo_wordOf_78 (fun x17 => fr_pc (pc' := 79) rfl ?_)
                refine fp_aload_n (i := 0) (r := p0) dd_Mo_wordOf_79 rfl rfl (fr_pc (pc' := 80) rfl ?_)
                refine fr_gR cl_11 11 (by decide) rfl sw_1083 dd_Mo_wordOf_80 (fun x18 => fr_pc (pc' := 83) rfl ?_)
                refine fp_iload_n (i := 1) (x := p1) dd_Mo_wordOf_83 rfl rfl (fr_pc (pc' := 84) rfl ?_)
                refine fp_iload (i := 7) (x := b13.2) dd_Mo_wordOf_84 rfl (fr_pc (pc' := 86) rfl ?_)
                refine fp_iadd dd_Mo_wordOf_86 (fr_pc (pc' := 87) rfl ?_)
                refine fr_aI2 dd_Mo_wordOf_87 (fun x19 => fr_pc (pc' := 88) rfl ?_)
                refine fr_icmp_ne (tgt := 95) dd_Mo_wordOf_88 rfl (fun _ => ?_) (fun _ => ?_)
                · refine fr_pc (pc' := 91) rfl ?_
                  refine fp_iconst (v := (1 : Int32)) dd_Mo_wordOf_91 (by decide) (fr_pc (pc' := 92) rfl ?_)
                  refine fp_goto (tgt := 96) dd_Mo_wordOf_92 rfl ?_
                  refine fp_istore (i := 6) dd_Mo_wordOf_96 (Nat.le_of_ble_eq_true rfl) (fun _ => c1_i rfl) (fr_to (pc' := 98) (env' := [some (sf_rv p0), some (.int p1), some (.int p2), some (.int b1.1), some (.int b1.2), some (.int e10), some (.int (1 : Int32)), some (.int b13.2)]) (stk' := []) rfl rfl rfl ?_)
                  refine fr_niinc (i := 7) (x := b13.2) (w := (1 : Int32)) dd_Mo_wordOf_98 rfl (by decide) (Nat.le_of_ble_eq_true rfl) (fun _ => c1_i rfl) (fun y21 => fr_to (pc' := 101) (env' := [some (sf_rv p0), some (.int p1), some (.int p2), some (.int b1.1), some (.int b1.2), some (.int e10), some (.int (1 : Int32)), some (.int y21)]) (stk' := []) rfl rfl rfl ?_)
                  refine fp_goto (tgt := 57) dd_Mo_wordOf_101 rfl ?_
                  exact fr_ret rfl
                · refine fp_iconst (v := (0 : Int32)) dd_Mo_wordOf_95 (by decide) (fr_pc (pc' := 96) rfl ?_)
                  refine fp_istore (i := 6) dd_Mo_wordOf_96 (Nat.le_of_ble_eq_true rfl) (fun _ => c1_i rfl) (fr_to (pc' := 98) (env' := [some (sf_rv p0), some (.int p1), some (.int p2), some (.int b1.1), some (.int b1.2), some (.int e10), some (.int (0 : Int32)), some (.int b13.2)]) (stk' := []) rfl rfl rfl ?_)
                  refine fr_niinc (i := 7) (x := b13.2) (w := (1 : Int32)) dd_Mo_wordOf_98 rfl (by decide) (Nat.le_of_ble_eq_true rfl) (fun _ => c1_i rfl) (fun y22 => fr_to (pc' := 101) (env' := [some (sf_rv p0), some (.int p1), some (.int p2), some (.int b1.1), some (.int b1.2), some (.int e10), some (.int (0 : Int32)), some (.int y22)]) (stk' := []) rfl rfl rfl ?_)
                  refine fp_goto (tgt := 57) dd_Mo_wordOf_101 rfl ?_
                  exact fr_ret rfl
          · refine fp_iload (i := 6) (x := e23) dd_Mo_wordOf_104 rfl (fr_pc (pc' := 106) rfl ?_)
            refine fr_if_eq (tgt := 111) dd_Mo_wordOf_106 rfl (fun _ => ?_) (fun _ => ?_)
            · refine fp_iload (i := 4) (x := b1.2) dd_Mo_wordOf_111 rfl (fr_pc (pc' := 113) rfl ?_)
              refine fp_iload (i := 5) (x := e10) dd_Mo_wordOf_113 rfl (fr_pc (pc' := 115) rfl ?_)
              refine fp_iconst (v := (1 : Int32)) dd_Mo_wordOf_115 (by decide) (fr_pc (pc' := 116) rfl ?_)
              refine fp_iadd dd_Mo_wordOf_116 (fr_pc (pc' := 117) rfl ?_)
              refine fp_iadd dd_Mo_wordOf_117 (fr_pc (pc' := 118) rfl ?_)
              refine fr_nistore (i := 4) dd_Mo_wordOf_118 (Nat.le_of_ble_eq_true rfl) (fun _ => c1_i rfl) (fun y25 => fr_to (pc' := 120) (env' := [some (sf_rv p0), some (.int p1), some (.int p2), some (.int b1.1), some (.int y25), some (.int e10), some (.int e23), none]) (stk' := []) rfl rfl rfl ?_)
              refine fr_niinc (i := 3) (x := b1.1) (w := (1 : Int32)) dd_Mo_wordOf_120 rfl (by decide) (Nat.le_of_ble_eq_true rfl) (fun _ => c1_i rfl) (fun y26 => fr_to (pc' := 123) (env' := [some (sf_rv p0), some (.int p1), some (.int p2), some (.int y26), some (.int y25), some (.int e10), some (.int e23), none]) (stk' := []) rfl rfl rfl ?_)
              refine fp_goto (tgt := 5) dd_Mo_wordOf_123 rfl ?_
              refine fr_wk [true, true, true, true, true, false, false, false] ?_
              exact fr_ret rfl
            · refine fr_pc (pc' := 109) rfl ?_
              refine fp_iload_n (i := 3) (x := b1.1) dd_Mo_wordOf_109 rfl rfl (fr_pc (pc' := 110) rfl ?_)
              exact fr_iret (v := b1.1) rfl rfl dd_Mo_wordOf_110
  · refine fp_iconst (v := (0 : Int32)) dd_Mo_wordOf_126 (by decide) (fr_pc (pc' := 127) rfl ?_)
    exact fr_iret (v := (0 : Int32)) rfl rfl dd_Mo_wordOf_127
theorem mt_Mo_splits : sf_Mt ({ cls := "SplitFaresModel", name := "splits", desc := "(I)V" } : Jvm.MethodName) prog_13_method_36_code 6 none 1 := ⟨sw_1335, sw_12, ⟨by decide, by decide, by decide +kernel⟩, by decide⟩
theorem dd_Mo_splits_0 : decode prog_13_method_36_code 0 = .ok (.aload_n 0, 1) := by decide +kernel
theorem dd_Mo_splits_1 : decode prog_13_method_36_code 1 = .ok (.iconst 0, 1) := by decide +kernel
theorem dd_Mo_splits_2 : decode prog_13_method_36_code 2 = .ok (.putfield 162, 3) := by decide +kernel
theorem dd_Mo_splits_5 : decode prog_13_method_36_code 5 = .ok (.iconst 0, 1) := by decide +kernel
theorem dd_Mo_splits_6 : decode prog_13_method_36_code 6 = .ok (.istore_n 2, 1) := by decide +kernel
theorem dd_Mo_splits_7 : decode prog_13_method_36_code 7 = .ok (.iload_n 2, 1) := by decide +kernel
theorem dd_Mo_splits_8 : decode prog_13_method_36_code 8 = .ok (.iload_n 1, 1) := by decide +kernel
theorem dd_Mo_splits_9 : decode prog_13_method_36_code 9 = .ok (.if_icmp .ge 254, 3) := by decide +kernel
theorem dd_Mo_splits_12 : decode prog_13_method_36_code 12 = .ok (.aload_n 0, 1) := by decide +kernel
theorem dd_Mo_splits_13 : decode prog_13_method_36_code 13 = .ok (.getfield 49, 3) := by decide +kernel
theorem dd_Mo_splits_16 : decode prog_13_method_36_code 16 = .ok (.iload_n 2, 1) := by decide +kernel
theorem dd_Mo_splits_17 : decode prog_13_method_36_code 17 = .ok (.baload, 1) := by decide +kernel
theorem dd_Mo_splits_18 : decode prog_13_method_36_code 18 = .ok (.istore_n 3, 1) := by decide +kernel
theorem dd_Mo_splits_19 : decode prog_13_method_36_code 19 = .ok (.iload_n 3, 1) := by decide +kernel
theorem dd_Mo_splits_20 : decode prog_13_method_36_code 20 = .ok (.bipush 32, 2) := by decide +kernel
theorem dd_Mo_splits_22 : decode prog_13_method_36_code 22 = .ok (.if_icmp .ne 9, 3) := by decide +kernel
theorem dd_Mo_splits_25 : decode prog_13_method_36_code 25 = .ok (.iinc 2 1, 3) := by decide +kernel
theorem dd_Mo_splits_28 : decode prog_13_method_36_code 28 = .ok (.goto (-21), 3) := by decide +kernel
theorem dd_Mo_splits_31 : decode prog_13_method_36_code 31 = .ok (.iload_n 2, 1) := by decide +kernel
theorem dd_Mo_splits_32 : decode prog_13_method_36_code 32 = .ok (.iconst 1, 1) := by decide +kernel
theorem dd_Mo_splits_33 : decode prog_13_method_36_code 33 = .ok (.iadd, 1) := by decide +kernel
theorem dd_Mo_splits_34 : decode prog_13_method_36_code 34 = .ok (.istore 4, 2) := by decide +kernel
theorem dd_Mo_splits_36 : decode prog_13_method_36_code 36 = .ok (.iload_n 3, 1) := by decide +kernel
theorem dd_Mo_splits_37 : decode prog_13_method_36_code 37 = .ok (.invokestatic 165, 3) := by decide +kernel
theorem dd_Mo_splits_40 : decode prog_13_method_36_code 40 = .ok (.ifCond .eq 28, 3) := by decide +kernel
theorem dd_Mo_splits_43 : decode prog_13_method_36_code 43 = .ok (.iload 4, 2) := by decide +kernel
theorem dd_Mo_splits_45 : decode prog_13_method_36_code 45 = .ok (.iload_n 1, 1) := by decide +kernel
theorem dd_Mo_splits_46 : decode prog_13_method_36_code 46 = .ok (.if_icmp .ge 22, 3) := by decide +kernel
theorem dd_Mo_splits_49 : decode prog_13_method_36_code 49 = .ok (.aload_n 0, 1) := by decide +kernel
theorem dd_Mo_splits_50 : decode prog_13_method_36_code 50 = .ok (.getfield 49, 3) := by decide +kernel
theorem dd_Mo_splits_53 : decode prog_13_method_36_code 53 = .ok (.iload 4, 2) := by decide +kernel
theorem dd_Mo_splits_55 : decode prog_13_method_36_code 55 = .ok (.baload, 1) := by decide +kernel
theorem dd_Mo_splits_56 : decode prog_13_method_36_code 56 = .ok (.invokestatic 165, 3) := by decide +kernel
theorem dd_Mo_splits_59 : decode prog_13_method_36_code 59 = .ok (.ifCond .eq 9, 3) := by decide +kernel
theorem dd_Mo_splits_62 : decode prog_13_method_36_code 62 = .ok (.iinc 4 1, 3) := by decide +kernel
theorem dd_Mo_splits_65 : decode prog_13_method_36_code 65 = .ok (.goto (-22), 3) := by decide +kernel
theorem dd_Mo_splits_68 : decode prog_13_method_36_code 68 = .ok (.iload_n 3, 1) := by decide +kernel
theorem dd_Mo_splits_69 : decode prog_13_method_36_code 69 = .ok (.invokestatic 168, 3) := by decide +kernel
theorem dd_Mo_splits_72 : decode prog_13_method_36_code 72 = .ok (.ifCond .eq 28, 3) := by decide +kernel
theorem dd_Mo_splits_75 : decode prog_13_method_36_code 75 = .ok (.iload 4, 2) := by decide +kernel
theorem dd_Mo_splits_77 : decode prog_13_method_36_code 77 = .ok (.iload_n 1, 1) := by decide +kernel
theorem dd_Mo_splits_78 : decode prog_13_method_36_code 78 = .ok (.if_icmp .ge 22, 3) := by decide +kernel
theorem dd_Mo_splits_81 : decode prog_13_method_36_code 81 = .ok (.aload_n 0, 1) := by decide +kernel
theorem dd_Mo_splits_82 : decode prog_13_method_36_code 82 = .ok (.getfield 49, 3) := by decide +kernel
theorem dd_Mo_splits_85 : decode prog_13_method_36_code 85 = .ok (.iload 4, 2) := by decide +kernel
theorem dd_Mo_splits_87 : decode prog_13_method_36_code 87 = .ok (.baload, 1) := by decide +kernel
theorem dd_Mo_splits_88 : decode prog_13_method_36_code 88 = .ok (.invokestatic 168, 3) := by decide +kernel
theorem dd_Mo_splits_91 : decode prog_13_method_36_code 91 = .ok (.ifCond .eq 9, 3) := by decide +kernel
theorem dd_Mo_splits_94 : decode prog_13_method_36_code 94 = .ok (.iinc 4 1, 3) := by decide +kernel
theorem dd_Mo_splits_97 : decode prog_13_method_36_code 97 = .ok (.goto (-22), 3) := by decide +kernel
theorem dd_Mo_splits_100 : decode prog_13_method_36_code 100 = .ok (.aload_n 0, 1) := by decide +kernel
theorem dd_Mo_splits_101 : decode prog_13_method_36_code 101 = .ok (.getfield 64, 3) := by decide +kernel
theorem dd_Mo_splits_104 : decode prog_13_method_36_code 104 = .ok (.aload_n 0, 1) := by decide +kernel
theorem dd_Mo_splits_105 : decode prog_13_method_36_code 105 = .ok (.getfield 162, 3) := by decide +kernel
theorem dd_Mo_splits_108 : decode prog_13_method_36_code 108 = .ok (.iload_n 2, 1) := by decide +kernel
theorem dd_Mo_splits_109 : decode prog_13_method_36_code 109 = .ok (.iastore, 1) := by decide +kernel
theorem dd_Mo_splits_110 : decode prog_13_method_36_code 110 = .ok (.aload_n 0, 1) := by decide +kernel
theorem dd_Mo_splits_111 : decode prog_13_method_36_code 111 = .ok (.getfield 61, 3) := by decide +kernel
theorem dd_Mo_splits_114 : decode prog_13_method_36_code 114 = .ok (.aload_n 0, 1) := by decide +kernel
theorem dd_Mo_splits_115 : decode prog_13_method_36_code 115 = .ok (.getfield 162, 3) := by decide +kernel
theorem dd_Mo_splits_118 : decode prog_13_method_36_code 118 = .ok (.iconst 0, 1) := by decide +kernel
theorem dd_Mo_splits_119 : decode prog_13_method_36_code 119 = .ok (.iastore, 1) := by decide +kernel
theorem dd_Mo_splits_120 : decode prog_13_method_36_code 120 = .ok (.aload_n 0, 1) := by decide +kernel
theorem dd_Mo_splits_121 : decode prog_13_method_36_code 121 = .ok (.getfield 58, 3) := by decide +kernel
theorem dd_Mo_splits_124 : decode prog_13_method_36_code 124 = .ok (.aload_n 0, 1) := by decide +kernel
theorem dd_Mo_splits_125 : decode prog_13_method_36_code 125 = .ok (.getfield 162, 3) := by decide +kernel
theorem dd_Mo_splits_128 : decode prog_13_method_36_code 128 = .ok (.iload_n 3, 1) := by decide +kernel
theorem dd_Mo_splits_129 : decode prog_13_method_36_code 129 = .ok (.invokestatic 165, 3) := by decide +kernel
theorem dd_Mo_splits_132 : decode prog_13_method_36_code 132 = .ok (.ifCond .eq 13, 3) := by decide +kernel
theorem dd_Mo_splits_135 : decode prog_13_method_36_code 135 = .ok (.aload_n 0, 1) := by decide +kernel
theorem dd_Mo_splits_136 : decode prog_13_method_36_code 136 = .ok (.iload_n 2, 1) := by decide +kernel
theorem dd_Mo_splits_137 : decode prog_13_method_36_code 137 = .ok (.iload 4, 2) := by decide +kernel
theorem dd_Mo_splits_139 : decode prog_13_method_36_code 139 = .ok (.invokevirtual 171, 3) := by decide +kernel
theorem dd_Mo_splits_142 : decode prog_13_method_36_code 142 = .ok (.goto 23, 3) := by decide +kernel
theorem dd_Mo_splits_145 : decode prog_13_method_36_code 145 = .ok (.iload_n 3, 1) := by decide +kernel
theorem dd_Mo_splits_146 : decode prog_13_method_36_code 146 = .ok (.invokestatic 168, 3) := by decide +kernel
theorem dd_Mo_splits_149 : decode prog_13_method_36_code 149 = .ok (.ifCond .eq 8, 3) := by decide +kernel
theorem dd_Mo_splits_152 : decode prog_13_method_36_code 152 = .ok (.bipush 50, 2) := by decide +kernel
theorem dd_Mo_splits_154 : decode prog_13_method_36_code 154 = .ok (.goto 11, 3) := by decide +kernel
theorem dd_Mo_splits_157 : decode prog_13_method_36_code 157 = .ok (.bipush 100, 2) := by decide +kernel
theorem dd_Mo_splits_159 : decode prog_13_method_36_code 159 = .ok (.iload_n 3, 1) := by decide +kernel
theorem dd_Mo_splits_160 : decode prog_13_method_36_code 160 = .ok (.sipush 255, 3) := by decide +kernel
theorem dd_Mo_splits_163 : decode prog_13_method_36_code 163 = .ok (.iand, 1) := by decide +kernel
theorem dd_Mo_splits_164 : decode prog_13_method_36_code 164 = .ok (.iadd, 1) := by decide +kernel
theorem dd_Mo_splits_165 : decode prog_13_method_36_code 165 = .ok (.iastore, 1) := by decide +kernel
theorem dd_Mo_splits_166 : decode prog_13_method_36_code 166 = .ok (.iload_n 2, 1) := by decide +kernel
theorem dd_Mo_splits_167 : decode prog_13_method_36_code 167 = .ok (.istore 5, 2) := by decide +kernel
theorem dd_Mo_splits_169 : decode prog_13_method_36_code 169 = .ok (.iload 5, 2) := by decide +kernel
theorem dd_Mo_splits_171 : decode prog_13_method_36_code 171 = .ok (.iload 4, 2) := by decide +kernel
theorem dd_Mo_splits_173 : decode prog_13_method_36_code 173 = .ok (.if_icmp .ge 74, 3) := by decide +kernel
theorem dd_Mo_splits_176 : decode prog_13_method_36_code 176 = .ok (.iload_n 3, 1) := by decide +kernel
theorem dd_Mo_splits_177 : decode prog_13_method_36_code 177 = .ok (.invokestatic 168, 3) := by decide +kernel
theorem dd_Mo_splits_180 : decode prog_13_method_36_code 180 = .ok (.ifCond .eq 67, 3) := by decide +kernel
theorem dd_Mo_splits_183 : decode prog_13_method_36_code 183 = .ok (.aload_n 0, 1) := by decide +kernel
theorem dd_Mo_splits_184 : decode prog_13_method_36_code 184 = .ok (.getfield 61, 3) := by decide +kernel
theorem dd_Mo_splits_187 : decode prog_13_method_36_code 187 = .ok (.aload_n 0, 1) := by decide +kernel
theorem dd_Mo_splits_188 : decode prog_13_method_36_code 188 = .ok (.getfield 162, 3) := by decide +kernel
theorem dd_Mo_splits_191 : decode prog_13_method_36_code 191 = .ok (.aload_n 0, 1) := by decide +kernel
theorem dd_Mo_splits_192 : decode prog_13_method_36_code 192 = .ok (.getfield 61, 3) := by decide +kernel
theorem dd_Mo_splits_195 : decode prog_13_method_36_code 195 = .ok (.aload_n 0, 1) := by decide +kernel
theorem dd_Mo_splits_196 : decode prog_13_method_36_code 196 = .ok (.getfield 162, 3) := by decide +kernel
theorem dd_Mo_splits_199 : decode prog_13_method_36_code 199 = .ok (.iaload, 1) := by decide +kernel
theorem dd_Mo_splits_200 : decode prog_13_method_36_code 200 = .ok (.ldc 174, 2) := by decide +kernel
theorem dd_Mo_splits_202 : decode prog_13_method_36_code 202 = .ok (.if_icmp .le 15, 3) := by decide +kernel
theorem dd_Mo_splits_205 : decode prog_13_method_36_code 205 = .ok (.aload_n 0, 1) := by decide +kernel
theorem dd_Mo_splits_206 : decode prog_13_method_36_code 206 = .ok (.getfield 61, 3) := by decide +kernel
theorem dd_Mo_splits_209 : decode prog_13_method_36_code 209 = .ok (.aload_n 0, 1) := by decide +kernel
theorem dd_Mo_splits_210 : decode prog_13_method_36_code 210 = .ok (.getfield 162, 3) := by decide +kernel
theorem dd_Mo_splits_213 : decode prog_13_method_36_code 213 = .ok (.iaload, 1) := by decide +kernel
theorem dd_Mo_splits_214 : decode prog_13_method_36_code 214 = .ok (.goto 26, 3) := by decide +kernel
theorem dd_Mo_splits_217 : decode prog_13_method_36_code 217 = .ok (.bipush 10, 2) := by decide +kernel
theorem dd_Mo_splits_219 : decode prog_13_method_36_code 219 = .ok (.aload_n 0, 1) := by decide +kernel
theorem dd_Mo_splits_220 : decode prog_13_method_36_code 220 = .ok (.getfield 61, 3) := by decide +kernel
theorem dd_Mo_splits_223 : decode prog_13_method_36_code 223 = .ok (.aload_n 0, 1) := by decide +kernel
theorem dd_Mo_splits_224 : decode prog_13_method_36_code 224 = .ok (.getfield 162, 3) := by decide +kernel
theorem dd_Mo_splits_227 : decode prog_13_method_36_code 227 = .ok (.iaload, 1) := by decide +kernel
theorem dd_Mo_splits_228 : decode prog_13_method_36_code 228 = .ok (.imul, 1) := by decide +kernel
theorem dd_Mo_splits_229 : decode prog_13_method_36_code 229 = .ok (.aload_n 0, 1) := by decide +kernel
theorem dd_Mo_splits_230 : decode prog_13_method_36_code 230 = .ok (.getfield 49, 3) := by decide +kernel
theorem dd_Mo_splits_233 : decode prog_13_method_36_code 233 = .ok (.iload 5, 2) := by decide +kernel
theorem dd_Mo_splits_235 : decode prog_13_method_36_code 235 = .ok (.baload, 1) := by decide +kernel
theorem dd_Mo_splits_236 : decode prog_13_method_36_code 236 = .ok (.iadd, 1) := by decide +kernel
theorem dd_Mo_splits_237 : decode prog_13_method_36_code 237 = .ok (.bipush 48, 2) := by decide +kernel
theorem dd_Mo_splits_239 : decode prog_13_method_36_code 239 = .ok (.isub, 1) := by decide +kernel
theorem dd_Mo_splits_240 : decode prog_13_method_36_code 240 = .ok (.iastore, 1) := by decide +kernel
theorem dd_Mo_splits_241 : decode prog_13_method_36_code 241 = .ok (.iinc 5 1, 3) := by decide +kernel
theorem dd_Mo_splits_244 : decode prog_13_method_36_code 244 = .ok (.goto (-75), 3) := by decide +kernel
theorem dd_Mo_splits_247 : decode prog_13_method_36_code 247 = .ok (.aload_n 0, 1) := by decide +kernel
theorem dd_Mo_splits_248 : decode prog_13_method_36_code 248 = .ok (.dup, 1) := by decide +kernel
theorem dd_Mo_splits_249 : decode prog_13_method_36_code 249 = .ok (.getfield 162, 3) := by decide +kernel
theorem dd_Mo_splits_252 : decode prog_13_method_36_code 252 = .ok (.iconst 1, 1) := by decide +kernel
theorem dd_Mo_splits_253 : decode prog_13_method_36_code 253 = .ok (.iadd, 1) := by decide +kernel
theorem dd_Mo_splits_254 : decode prog_13_method_36_code 254 = .ok (.putfield 162, 3) := by decide +kernel
theorem dd_Mo_splits_257 : decode prog_13_method_36_code 257 = .ok (.iload 4, 2) := by decide +kernel
theorem dd_Mo_splits_259 : decode prog_13_method_36_code 259 = .ok (.istore_n 2, 1) := by decide +kernel
theorem dd_Mo_splits_260 : decode prog_13_method_36_code 260 = .ok (.goto (-253), 3) := by decide +kernel
theorem dd_Mo_splits_263 : decode prog_13_method_36_code 263 = .ok (.aload_n 0, 1) := by decide +kernel
theorem dd_Mo_splits_264 : decode prog_13_method_36_code 264 = .ok (.getfield 64, 3) := by decide +kernel
theorem dd_Mo_splits_267 : decode prog_13_method_36_code 267 = .ok (.aload_n 0, 1) := by decide +kernel
theorem dd_Mo_splits_268 : decode prog_13_method_36_code 268 = .ok (.getfield 162, 3) := by decide +kernel
theorem dd_Mo_splits_271 : decode prog_13_method_36_code 271 = .ok (.iload_n 1, 1) := by decide +kernel
theorem dd_Mo_splits_272 : decode prog_13_method_36_code 272 = .ok (.iastore, 1) := by decide +kernel
theorem dd_Mo_splits_273 : decode prog_13_method_36_code 273 = .ok (.aload_n 0, 1) := by decide +kernel
theorem dd_Mo_splits_274 : decode prog_13_method_36_code 274 = .ok (.getfield 58, 3) := by decide +kernel
theorem dd_Mo_splits_277 : decode prog_13_method_36_code 277 = .ok (.aload_n 0, 1) := by decide +kernel
theorem dd_Mo_splits_278 : decode prog_13_method_36_code 278 = .ok (.getfield 162, 3) := by decide +kernel
theorem dd_Mo_splits_281 : decode prog_13_method_36_code 281 = .ok (.iconst 0, 1) := by decide +kernel
theorem dd_Mo_splits_282 : decode prog_13_method_36_code 282 = .ok (.iastore, 1) := by decide +kernel
theorem dd_Mo_splits_283 : decode prog_13_method_36_code 283 = .ok (.aload_n 0, 1) := by decide +kernel
theorem dd_Mo_splits_284 : decode prog_13_method_36_code 284 = .ok (.getfield 61, 3) := by decide +kernel
theorem dd_Mo_splits_287 : decode prog_13_method_36_code 287 = .ok (.aload_n 0, 1) := by decide +kernel
theorem dd_Mo_splits_288 : decode prog_13_method_36_code 288 = .ok (.getfield 162, 3) := by decide +kernel
theorem dd_Mo_splits_291 : decode prog_13_method_36_code 291 = .ok (.iconst 0, 1) := by decide +kernel
theorem dd_Mo_splits_292 : decode prog_13_method_36_code 292 = .ok (.iastore, 1) := by decide +kernel
theorem dd_Mo_splits_293 : decode prog_13_method_36_code 293 = .ok (.return_, 1) := by decide +kernel
def jx_Mo_splits (p0 : Option Nat) (p1 : Int32) : sf_M (Unit) :=
  sf_bnd (sf_pI 11 18 p0 (0 : Int32)) fun _ =>
  sf_bnd (sf_loop (β := (Int32)) (γ := (Unit)) (fun b1 =>
  if p1 ≤ b1 then (
  sf_ret (.inr ())
  ) else (
  sf_bnd (sf_gR 11 11 p0) fun x3 =>
  sf_bnd (sf_aI 2 x3 b1) fun x4 =>
  if x4 = (32 : Int32) then (
  sf_bnd (sf_ret (b1 + (1 : Int32))) fun y6 =>
  sf_ret (.inl y6)
  ) else (
  sf_bnd (sf_ret ((b1 + (1 : Int32)))) fun y7 =>
  sf_bnd (jx_Mo_isSmall x4) fun x8 =>
  sf_bnd (α := (Int32)) (
  if x8 = 0 then (
  sf_ret y7
  ) else (
  sf_bnd (sf_loop (β := (Int32)) (γ := (Int32)) (fun b10 =>
  if p1 ≤ b10 then (
  sf_ret (.inr b10)
  ) else (
  sf_bnd (sf_gR 11 11 p0) fun x12 =>
  sf_bnd (sf_aI 2 x12 b10) fun x13 =>
  sf_bnd (jx_Mo_isSmall x13) fun x14 =>
  if x14 = 0 then (
  sf_ret (.inr b10)
  ) else (
  sf_bnd (sf_ret (b10 + (1 : Int32))) fun y16 =>
  sf_ret (.inl y16)
  )
  )
  ) sf_fuel y7) (fun e17 =>
  sf_ret e17
  )
  )
  ) (fun v18 =>
  sf_bnd (jx_Mo_isDigit x4) fun x19 =>
  sf_bnd (α := (Int32)) (
  if x19 = 0 then (
  sf_ret v18
  ) else (
  sf_bnd (sf_loop (β := (Int32)) (γ := (Int32)) (fun b21 =>
  if p1 ≤ b21 then (
  sf_ret (.inr b21)
  ) else (
  sf_bnd (sf_gR 11 11 p0) fun x23 =>
  sf_bnd (sf_aI 2 x23 b21) fun x24 =>
  sf_bnd (jx_Mo_isDigit x24) fun x25 =>
  if x25 = 0 then (
  sf_ret (.inr b21)
  ) else (
  sf_bnd (sf_ret (b21 + (1 : Int32))) fun y27 =>
  sf_ret (.inl y27)
  )
  )
  ) sf_fuel v18) (fun e28 =>
  sf_ret e28
  )
  )
  ) (fun v29 =>
  sf_bnd (sf_gR 11 17 p0) fun x30 =>
  sf_bnd (sf_gI 11 18 p0) fun x31 =>
  sf_bnd (sf_sI 0 x30 x31 b1) fun _ =>
  sf_bnd (sf_gR 11 16 p0) fun x32 =>
  sf_bnd (sf_gI 11 18 p0) fun x33 =>
  sf_bnd (sf_sI 0 x32 x33 (0 : Int32)) fun _ =>
  sf_bnd (sf_gR 11 15 p0) fun x34 =>
  sf_bnd (sf_gI 11 18 p0) fun x35 =>
  sf_bnd (jx_Mo_isSmall x4) fun x36 =>
  sf_bnd (α := (Int32)) (
  if x36 = 0 then (
  sf_bnd (jx_Mo_isDigit x4) fun x38 =>
  if x38 = 0 then (
  sf_ret ((100 : Int32) + (x4 &&& (255 : Int32)))
  ) else (
  sf_ret (50 : Int32)
  )
  ) else (
  sf_bnd (sf_rc 11 p0 (jx_Mo_wordOf p0 b1 v29)) fun x40 =>
  sf_ret x40
  )
  ) (fun v41 =>
  sf_bnd (sf_sI 0 x34 x35 v41) fun _ =>
  sf_bnd (sf_loop (β := (Int32)) (γ := (Unit)) (fun b42 =>
  if v29 ≤ b42 then (
  sf_ret (.inr ())
  ) else (
  sf_bnd (jx_Mo_isDigit x4) fun x44 =>
  if x44 = 0 then (
  sf_ret (.inr ())
  ) else (
  sf_bnd (sf_gR 11 16 p0) fun x46 =>
  sf_bnd (sf_gI 11 18 p0) fun x47 =>
  sf_bnd (sf_gR 11 16 p0) fun x48 =>
  sf_bnd (sf_gI 11 18 p0) fun x49 =>
  sf_bnd (sf_aI 0 x48 x49) fun x50 =>
  sf_bnd (α := (Int32)) (
  if x50 ≤ (1000000 : Int32) then (
  sf_bnd (sf_gR 11 16 p0) fun x52 =>
  sf_bnd (sf_gI 11 18 p0) fun x53 =>
  sf_bnd (sf_aI 0 x52 x53) fun x54 =>
  sf_bnd (sf_gR 11 11 p0) fun x55 =>
  sf_bnd (sf_aI 2 x55 b42) fun x56 =>
  sf_ret ((((10 : Int32) * x54) + x56) - (48 : Int32))
  ) else (
  sf_bnd (sf_gR 11 16 p0) fun x57 =>
  sf_bnd (sf_gI 11 18 p0) fun x58 =>
  sf_bnd (sf_aI 0 x57 x58) fun x59 =>
  sf_ret x59
  )
  ) (fun v60 =>
  sf_bnd (sf_sI 0 x46 x47 v60) fun _ =>
  sf_bnd (sf_ret (b42 + (1 : Int32))) fun y61 =>
  sf_ret (.inl y61)
  )
  )
  )
  ) sf_fuel b1) (fun e62 =>
  sf_bnd (sf_gI 11 18 p0) fun x63 =>
  sf_bnd (sf_pI 11 18 p0 (x63 + (1 : Int32))) fun _ =>
  sf_ret (.inl v29)
  )
  )
  )
  )
  )
  )
  ) sf_fuel (0 : Int32)) (fun e64 =>
  sf_bnd (sf_gR 11 17 p0) fun x65 =>
  sf_bnd (sf_gI 11 18 p0) fun x66 =>
  sf_bnd (sf_sI 0 x65 x66 p1) fun _ =>
  sf_bnd (sf_gR 11 15 p0) fun x67 =>
  sf_bnd (sf_gI 11 18 p0) fun x68 =>
  sf_bnd (sf_sI 0 x67 x68 (0 : Int32)) fun _ =>
  sf_bnd (sf_gR 11 16 p0) fun x69 =>
  sf_bnd (sf_gI 11 18 p0) fun x70 =>
  sf_bnd (sf_sI 0 x69 x70 (0 : Int32)) fun _ =>
  sf_ret ()
  )
set_option maxRecDepth 20000 in
set_option maxHeartbeats 4000000 in
theorem ok_Mo_splits (p0 : Option Nat) (p1 : Int32) : sf_Ok ({ cls := "SplitFaresModel", name := "splits", desc := "(I)V" } : Jvm.MethodName) prog_13_method_36_code 6 none 1 [sf_rv p0, .int p1] (jx_Mo_splits p0 p1) (fun _ => none) := by
  refine sf_Ok.of (env := [some (sf_rv p0), some (.int p1), none, none, none, none]) (plainFor_of_name (by decide)) [false, false] (fun G => ⟨pk_r, pk_i, trivial⟩) (Nat.le_of_ble_eq_true rfl) rfl (fun X => ?_)
  unfold jx_Mo_splits
  refine fp_aload_n (i := 0) (r := p0) dd_Mo_splits_0 rfl rfl (fr_pc (pc' := 1) rfl ?_)
  refine fp_iconst (v := (0 : Int32)) dd_Mo_splits_1 (by decide) (fr_pc (pc' := 2) rfl ?_)
  refine fr_pI cl_11 18 (by decide) rfl sw_1090 rfl ⟨rfl, rfl⟩ dd_Mo_splits_2 (fr_pc (pc' := 5) rfl ?_)
  refine fp_iconst (v := (0 : Int32)) dd_Mo_splits_5 (by decide) (fr_pc (pc' := 6) rfl ?_)
  refine fp_istore_n (i := 2) dd_Mo_splits_6 rfl (Nat.le_of_ble_eq_true rfl) (fun _ => c1_i rfl) (fr_to (pc' := 7) (env' := [some (sf_rv p0), some (.int p1), some (.int (0 : Int32)), none, none, none]) (stk' := []) rfl rfl rfl ?_)
  refine fr_to (pc' := 7) (env' := [some (sf_rv p0), some (.int p1), some (.int (0 : Int32)), none, none, none]) (stk' := []) rfl rfl rfl ?_
  refine fr_bnd (l1 := (fun (e64 : (Unit)) => sf_p 263 [some (sf_rv p0), some (.int p1), none, none, none, none] [])) (fr_loop (Lb := (fun (b1 : (Int32)) => sf_p 7 [some (sf_rv p0), some (.int p1), some (.int b1), none, none, none] [])) (fun b1 => ?_) _ _) (fun e64 => ?_)
  · refine fp_iload_n (i := 2) (x := b1) dd_Mo_splits_7 rfl rfl (fr_pc (pc' := 8) rfl ?_)
    refine fp_iload_n (i := 1) (x := p1) dd_Mo_splits_8 rfl rfl (fr_pc (pc' := 9) rfl ?_)
    refine fr_icmp_ge (tgt := 263) dd_Mo_splits_9 rfl (fun _ => ?_) (fun _ => ?_)
    · refine fr_wk [true, true, false, false, false, false] ?_
      exact fr_ret rfl
    · refine fr_pc (pc' := 12) rfl ?_
      refine fp_aload_n (i := 0) (r := p0) dd_Mo_splits_12 rfl rfl (fr_pc (pc' := 13) rfl ?_)
      refine fr_gR cl_11 11 (by decide) rfl sw_1083 dd_Mo_splits_13 (fun x3 => fr_pc (pc' := 16) rfl ?_)
      refine fp_iload_n (i := 2) (x := b1) dd_Mo_splits_16 rfl rfl (fr_pc (pc' := 17) rfl ?_)
      refine fr_aI2 dd_Mo_splits_17 (fun x4 => fr_pc (pc' := 18) rfl ?_)
      refine fp_istore_n (i := 3) dd_Mo_splits_18 rfl (Nat.le_of_ble_eq_true rfl) (fun _ => c1_i rfl) (fr_to (pc' := 19) (env' := [some (sf_rv p0), some (.int p1), some (.int b1), some (.int x4), none, none]) (stk' := []) rfl rfl rfl ?_)
      refine fp_iload_n (i := 3) (x := x4) dd_Mo_splits_19 rfl rfl (fr_pc (pc' := 20) rfl ?_)
      refine fp_bipush (v := (32 : Int32)) dd_Mo_splits_20 (by decide) (fr_pc (pc' := 22) rfl ?_)
      refine fr_icmp_ne (tgt := 31) dd_Mo_splits_22 rfl (fun _ => ?_) (fun _ => ?_)
      · refine fr_pc (pc' := 25) rfl ?_
        refine fr_niinc (i := 2) (x := b1) (w := (1 : Int32)) dd_Mo_splits_25 rfl (by decide) (Nat.le_of_ble_eq_true rfl) (fun _ => c1_i rfl) (fun y6 => fr_to (pc' := 28) (env' := [some (sf_rv p0), some (.int p1), some (.int y6), some (.int x4), none, none]) (stk' := []) rfl rfl rfl ?_)
        refine fp_goto (tgt := 7) dd_Mo_splits_28 rfl ?_
        refine fr_wk [true, true, true, false, false, false] ?_
        exact fr_ret rfl
      · refine fp_iload_n (i := 2) (x := b1) dd_Mo_splits_31 rfl rfl (fr_pc (pc' := 32) rfl ?_)
        refine fp_iconst (v := (1 : Int32)) dd_Mo_splits_32 (by decide) (fr_pc (pc' := 33) rfl ?_)
        refine fp_iadd dd_Mo_splits_33 (fr_pc (pc' := 34) rfl ?_)
        refine fr_nistore (i := 4) dd_Mo_splits_34 (Nat.le_of_ble_eq_true rfl) (fun _ => c1_i rfl) (fun y7 => fr_to (pc' := 36) (env' := [some (sf_rv p0), some (.int p1), some (.int b1), some (.int x4), some (.int y7), none]) (stk' := []) rfl rfl rfl ?_)
        refine fp_iload_n (i := 3) (x := x4) dd_Mo_splits_36 rfl rfl (fr_pc (pc' := 37) rfl ?_)
        refine fr_callS (stk := []) (ok_Mo_isSmall x4) mt_Mo_isSmall rfl rfl sw_1336 sw_1337 (by decide) (Nat.le_of_ble_eq_true rfl) dd_Mo_splits_37 (fun x8 => fr_to (pc' := 40) (env' := [some (sf_rv p0), some (.int p1), some (.int b1), some (.int x4), some (.int y7), none]) (stk' := [.int x8]) rfl rfl rfl ?_)
        refine fr_bnd (l1 := (fun (v18 : (Int32)) => sf_p 68 [some (sf_rv p0), some (.int p1), some (.int b1), some (.int x4), some (.int v18), none] [])) ?_ (fun v18 => ?_)
        · refine fr_if_eq (tgt := 68) dd_Mo_splits_40 rfl (fun _ => ?_) (fun _ => ?_)
          · exact fr_ret rfl
          · refine fr_pc (pc' := 43) rfl ?_
            refine fr_to (pc' := 43) (env' := [some (sf_rv p0), some (.int p1), some (.int b1), some (.int x4), some (.int y7), none]) (stk' := []) rfl rfl rfl ?_
            refine fr_bnd (l1 := (fun (e17 : (Int32)) => sf_p 68 [some (sf_rv p0), some (.int p1), some (.int b1), some (.int x4), some (.int e17), none] [])) (fr_loop (Lb := (fun (b10 : (Int32)) => sf_p 43 [some (sf_rv p0), some (.int p1), some (.int b1), some (.int x4), some (.int b10), none] [])) (fun b10 => ?_) _ _) (fun e17 => ?_)
            · refine fp_iload (i := 4) (x := b10) dd_Mo_splits_43 rfl (fr_pc (pc' := 45) rfl ?_)
              refine fp_iload_n (i := 1) (x := p1) dd_Mo_splits_45 rfl rfl (fr_pc (pc' := 46) rfl ?_)
              refine fr_icmp_ge (tgt := 68) dd_Mo_splits_46 rfl (fun _ => ?_) (fun _ => ?_)
              · exact fr_ret rfl
              · refine fr_pc (pc' := 49) rfl ?_
                refine fp_aload_n (i := 0) (r := p0) dd_Mo_splits_49 rfl rfl (fr_pc (pc' := 50) rfl ?_)
                refine fr_gR cl_11 11 (by decide) rfl sw_1083 dd_Mo_splits_50 (fun x12 => fr_pc (pc' := 53) rfl ?_)
                refine fp_iload (i := 4) (x := b10) dd_Mo_splits_53 rfl (fr_pc (pc' := 55) rfl ?_)
                refine fr_aI2 dd_Mo_splits_55 (fun x13 => fr_pc (pc' := 56) rfl ?_)
                refine fr_callS (stk := []) (ok_Mo_isSmall x13) mt_Mo_isSmall rfl rfl sw_1336 sw_1337 (by decide) (Nat.le_of_ble_eq_true rfl) dd_Mo_splits_56 (fun x14 => fr_to (pc' := 59) (env' := [some (sf_rv p0), some (.int p1), some (.int b1), some (.int x4), some (.int b10), none]) (stk' := [.int x14]) rfl rfl rfl ?_)
                refine fr_if_eq (tgt := 68) dd_Mo_splits_59 rfl (fun _ => ?_) (fun _ => ?_)
                · exact fr_ret rfl
                · refine fr_pc (pc' := 62) rfl ?_
                  refine fr_niinc (i := 4) (x := b10) (w := (1 : Int32)) dd_Mo_splits_62 rfl (by decide) (Nat.le_of_ble_eq_true rfl) (fun _ => c1_i rfl) (fun y16 => fr_to (pc' := 65) (env' := [some (sf_rv p0), some (.int p1), some (.int b1), some (.int x4), some (.int y16), none]) (stk' := []) rfl rfl rfl ?_)
                  refine fp_goto (tgt := 43) dd_Mo_splits_65 rfl ?_
                  exact fr_ret rfl
            · exact fr_ret rfl
        · refine fp_iload_n (i := 3) (x := x4) dd_Mo_splits_68 rfl rfl (fr_pc (pc' := 69) rfl ?_)
          refine fr_callS (stk := []) (ok_Mo_isDigit x4) mt_Mo_isDigit rfl rfl sw_1339 sw_1340 (by decide) (Nat.le_of_ble_eq_true rfl) dd_Mo_splits_69 (fun x19 => fr_to (pc' := 72) (env' := [some (sf_rv p0), some (.int p1), some (.int b1), some (.int x4), some (.int v18), none]) (stk' := [.int x19]) rfl rfl rfl ?_)
          refine fr_bnd (l1 := (fun (v29 : (Int32)) => sf_p 100 [some (sf_rv p0), some (.int p1), some (.int b1), some (.int x4), some (.int v29), none] [])) ?_ (fun v29 => ?_)
          · refine fr_if_eq (tgt := 100) dd_Mo_splits_72 rfl (fun _ => ?_) (fun _ => ?_)
            · exact fr_ret rfl
            · refine fr_pc (pc' := 75) rfl ?_
              refine fr_to (pc' := 75) (env' := [some (sf_rv p0), some (.int p1), some (.int b1), some (.int x4), some (.int v18), none]) (stk' := []) rfl rfl rfl ?_
              refine fr_bnd (l1 := (fun (e28 : (Int32)) => sf_p 100 [some (sf_rv p0), some (.int p1), some (.int b1), some (.int x4), some (.int e28), none] [])) (fr_loop (Lb := (fun (b21 : (Int32)) => sf_p 75 [some (sf_rv p0), some (.int p1), some (.int b1), some (.int x4), some (.int b21), none] [])) (fun b21 => ?_) _ _) (fun e28 => ?_)
              · refine fp_iload (i := 4) (x := b21) dd_Mo_splits_75 rfl (fr_pc (pc' := 77) rfl ?_)
                refine fp_iload_n (i := 1) (x := p1) dd_Mo_splits_77 rfl rfl (fr_pc (pc' := 78) rfl ?_)
                refine fr_icmp_ge (tgt := 100) dd_Mo_splits_78 rfl (fun _ => ?_) (fun _ => ?_)
                · exact fr_ret rfl
                · refine fr_pc (pc' := 81) rfl ?_
                  refine fp_aload_n (i := 0) (r := p0) dd_Mo_splits_81 rfl rfl (fr_pc (pc' := 82) rfl ?_)
                  refine fr_gR cl_11 11 (by decide) rfl sw_1083 dd_Mo_splits_82 (fun x23 => fr_pc (pc' := 85) rfl ?_)
                  refine fp_iload (i := 4) (x := b21) dd_Mo_splits_85 rfl (fr_pc (pc' := 87) rfl ?_)
                  refine fr_aI2 dd_Mo_splits_87 (fun x24 => fr_pc (pc' := 88) rfl ?_)
                  refine fr_callS (stk := []) (ok_Mo_isDigit x24) mt_Mo_isDigit rfl rfl sw_1339 sw_1340 (by decide) (Nat.le_of_ble_eq_true rfl) dd_Mo_splits_88 (fun x25 => fr_to (pc' := 91) (env' := [some (sf_rv p0), some (.int p1), some (.int b1), some (.int x4), some (.int b21), none]) (stk' := [.int x25]) rfl rfl rfl ?_)
                  refine fr_if_eq (tgt := 100) dd_Mo_splits_91 rfl (fun _ => ?_) (fun _ => ?_)
                  · exact fr_ret rfl
                  · refine fr_pc (pc' := 94) rfl ?_
                    refine fr_niinc (i := 4) (x := b21) (w := (1 : Int32)) dd_Mo_splits_94 rfl (by decide) (Nat.le_of_ble_eq_true rfl) (fun _ => c1_i rfl) (fun y27 => fr_to (pc' := 97) (env' := [some (sf_rv p0), some (.int p1), some (.int b1), some (.int x4), some (.int y27), none]) (stk' := []) rfl rfl rfl ?_)
                    refine fp_goto (tgt := 75) dd_Mo_splits_97 rfl ?_
                    exact fr_ret rfl
              · exact fr_ret rfl
          · refine fp_aload_n (i := 0) (r := p0) dd_Mo_splits_100 rfl rfl (fr_pc (pc' := 101) rfl ?_)
            refine fr_gR cl_11 17 (by decide) rfl sw_1089 dd_Mo_splits_101 (fun x30 => fr_pc (pc' := 104) rfl ?_)
            refine fp_aload_n (i := 0) (r := p0) dd_Mo_splits_104 rfl rfl (fr_pc (pc' := 105) rfl ?_)
            refine fr_gI cl_11 18 (by decide) rfl sw_1090 dd_Mo_splits_105 (fun x31 => fr_pc (pc' := 108) rfl ?_)
            refine fp_iload_n (i := 2) (x := b1) dd_Mo_splits_108 rfl rfl (fr_pc (pc' := 109) rfl ?_)
            refine fr_sI0 dd_Mo_splits_109 (fr_pc (pc' := 110) rfl ?_)
            refine fp_aload_n (i := 0) (r := p0) dd_Mo_splits_110 rfl rfl (fr_pc (pc' := 111) rfl ?_)
            refine fr_gR cl_11 16 (by decide) rfl sw_1088 dd_Mo_splits_111 (fun x32 => fr_pc (pc' := 114) rfl ?_)
            refine fp_aload_n (i := 0) (r := p0) dd_Mo_splits_114 rfl rfl (fr_pc (pc' := 115) rfl ?_)
            refine fr_gI cl_11 18 (by decide) rfl sw_1090 dd_Mo_splits_115 (fun x33 => fr_pc (pc' := 118) rfl ?_)
            refine fp_iconst (v := (0 : Int32)) dd_Mo_splits_118 (by decide) (fr_pc (pc' := 119) rfl ?_)
            refine fr_sI0 dd_Mo_splits_119 (fr_pc (pc' := 120) rfl ?_)
            refine fp_aload_n (i := 0) (r := p0) dd_Mo_splits_120 rfl rfl (fr_pc (pc' := 121) rfl ?_)
            refine fr_gR cl_11 15 (by decide) rfl sw_1087 dd_Mo_splits_121 (fun x34 => fr_pc (pc' := 124) rfl ?_)
            refine fp_aload_n (i := 0) (r := p0) dd_Mo_splits_124 rfl rfl (fr_pc (pc' := 125) rfl ?_)
            refine fr_gI cl_11 18 (by decide) rfl sw_1090 dd_Mo_splits_125 (fun x35 => fr_pc (pc' := 128) rfl ?_)
            refine fp_iload_n (i := 3) (x := x4) dd_Mo_splits_128 rfl rfl (fr_pc (pc' := 129) rfl ?_)
            refine fr_callS (stk := [.int x35, sf_rv x34]) (ok_Mo_isSmall x4) mt_Mo_isSmall rfl rfl sw_1336 sw_1337 (by decide) (Nat.le_of_ble_eq_true rfl) dd_Mo_splits_129 (fun x36 => fr_to (pc' := 132) (env' := [some (sf_rv p0), some (.int p1), some (.int b1), some (.int x4), some (.int v29), none]) (stk' := [.int x36, .int x35, sf_rv x34]) rfl rfl rfl ?_)
            refine fr_bnd (l1 := (fun (v41 : (Int32)) => sf_p 165 [some (sf_rv p0), some (.int p1), some (.int b1), some (.int x4), some (.int v29), none] [.int v41, .int x35, sf_rv x34])) ?_ (fun v41 => ?_)
            · refine fr_if_eq (tgt := 145) dd_Mo_splits_132 rfl (fun _ => ?_) (fun _ => ?_)
              · refine fp_iload_n (i := 3) (x := x4) dd_Mo_splits_145 rfl rfl (fr_pc (pc' := 146) rfl ?_)
                refine fr_callS (stk := [.int x35, sf_rv x34]) (ok_Mo_isDigit x4) mt_Mo_isDigit rfl rfl sw_1339 sw_1340 (by decide) (Nat.le_of_ble_eq_true rfl) dd_Mo_splits_146 (fun x38 => fr_to (pc' := 149) (env' := [some (sf_rv p0), some (.int p1), some (.int b1), some (.int x4), some (.int v29), none]) (stk' := [.int x38, .int x35, sf_rv x34]) rfl rfl rfl ?_)
                refine fr_if_eq (tgt := 157) dd_Mo_splits_149 rfl (fun _ => ?_) (fun _ => ?_)
                · refine fp_bipush (v := (100 : Int32)) dd_Mo_splits_157 (by decide) (fr_pc (pc' := 159) rfl ?_)
                  refine fp_iload_n (i := 3) (x := x4) dd_Mo_splits_159 rfl rfl (fr_pc (pc' := 160) rfl ?_)
                  refine fp_sipush (v := (255 : Int32)) dd_Mo_splits_160 (by decide) (fr_pc (pc' := 163) rfl ?_)
                  refine fp_iand dd_Mo_splits_163 (fr_pc (pc' := 164) rfl ?_)
                  refine fp_iadd dd_Mo_splits_164 (fr_pc (pc' := 165) rfl ?_)
                  exact fr_ret rfl
                · refine fr_pc (pc' := 152) rfl ?_
                  refine fp_bipush (v := (50 : Int32)) dd_Mo_splits_152 (by decide) (fr_pc (pc' := 154) rfl ?_)
                  refine fp_goto (tgt := 165) dd_Mo_splits_154 rfl ?_
                  exact fr_ret rfl
              · refine fr_pc (pc' := 135) rfl ?_
                refine fp_aload_n (i := 0) (r := p0) dd_Mo_splits_135 rfl rfl (fr_pc (pc' := 136) rfl ?_)
                refine fp_iload_n (i := 2) (x := b1) dd_Mo_splits_136 rfl rfl (fr_pc (pc' := 137) rfl ?_)
                refine fp_iload (i := 4) (x := v29) dd_Mo_splits_137 rfl (fr_pc (pc' := 139) rfl ?_)
                refine fr_callV (stk := [.int x35, sf_rv x34]) (As := [.int b1, .int v29]) cl_11 (ok_Mo_wordOf p0 b1 v29) mt_Mo_wordOf rfl rfl sw_1342 sw_1344 sp_35 (by decide) (Nat.le_of_ble_eq_true rfl) dd_Mo_splits_139 (fun x40 => fr_to (pc' := 142) (env' := [some (sf_rv p0), some (.int p1), some (.int b1), some (.int x4), some (.int v29), none]) (stk' := [.int x40, .int x35, sf_rv x34]) rfl rfl rfl ?_)
                refine fp_goto (tgt := 165) dd_Mo_splits_142 rfl ?_
                exact fr_ret rfl
            · refine fr_sI0 dd_Mo_splits_165 (fr_pc (pc' := 166) rfl ?_)
              refine fp_iload_n (i := 2) (x := b1) dd_Mo_splits_166 rfl rfl (fr_pc (pc' := 167) rfl ?_)
              refine fp_istore (i := 5) dd_Mo_splits_167 (Nat.le_of_ble_eq_true rfl) (fun _ => c1_i rfl) (fr_to (pc' := 169) (env' := [some (sf_rv p0), some (.int p1), some (.int b1), some (.int x4), some (.int v29), some (.int b1)]) (stk' := []) rfl rfl rfl ?_)
              refine fr_to (pc' := 169) (env' := [some (sf_rv p0), some (.int p1), some (.int b1), some (.int x4), some (.int v29), some (.int b1)]) (stk' := []) rfl rfl rfl ?_
              refine fr_bnd (l1 := (fun (e62 : (Unit)) => sf_p 247 [some (sf_rv p0), some (.int p1), some (.int b1), some (.int x4), some (.int v29), none] [])) (fr_loop (Lb := (fun (b42 : (Int32)) => sf_p 169 [some (sf_rv p0), some (.int p1), some (.int b1), some (.int x4), some (.int v29), some (.int b42)] [])) (fun b42 => ?_) _ _) (fun e62 => ?_)
              · refine fp_iload (i := 5) (x := b42) dd_Mo_splits_169 rfl (fr_pc (pc' := 171) rfl ?_)
                refine fp_iload (i := 4) (x := v29) dd_Mo_splits_171 rfl (fr_pc (pc' := 173) rfl ?_)
                refine fr_icmp_ge (tgt := 247) dd_Mo_splits_173 rfl (fun _ => ?_) (fun _ => ?_)
                · refine fr_wk [true, true, true, true, true, false] ?_
                  exact fr_ret rfl
                · refine fr_pc (pc' := 176) rfl ?_
                  refine fp_iload_n (i := 3) (x := x4) dd_Mo_splits_176 rfl rfl (fr_pc (pc' := 177) rfl ?_)
                  refine fr_callS (stk := []) (ok_Mo_isDigit x4) mt_Mo_isDigit rfl rfl sw_1339 sw_1340 (by decide) (Nat.le_of_ble_eq_true rfl) dd_Mo_splits_177 (fun x44 => fr_to (pc' := 180) (env' := [some (sf_rv p0), some (.int p1), some (.int b1), some (.int x4), some (.int v29), some (.int b42)]) (stk' := [.int x44]) rfl rfl rfl ?_)
                  refine fr_if_eq (tgt := 247) dd_Mo_splits_180 rfl (fun _ => ?_) (fun _ => ?_)
                  · refine fr_wk [true, true, true, true, true, false] ?_
                    exact fr_ret rfl
                  · refine fr_pc (pc' := 183) rfl ?_
                    refine fp_aload_n (i := 0) (r := p0) dd_Mo_splits_183 rfl rfl (fr_pc (pc' := 184) rfl ?_)
                    refine fr_gR cl_11 16 (by decide) rfl sw_1088 dd_Mo_splits_184 (fun x46 => fr_pc (pc' := 187) rfl ?_)
                    refine fp_aload_n (i := 0) (r := p0) dd_Mo_splits_187 rfl rfl (fr_pc (pc' := 188) rfl ?_)
                    refine fr_gI cl_11 18 (by decide) rfl sw_1090 dd_Mo_splits_188 (fun x47 => fr_pc (pc' := 191) rfl ?_)
                    refine fp_aload_n (i := 0) (r := p0) dd_Mo_splits_191 rfl rfl (fr_pc (pc' := 192) rfl ?_)
                    refine fr_gR cl_11 16 (by decide) rfl sw_1088 dd_Mo_splits_192 (fun x48 => fr_pc (pc' := 195) rfl ?_)
                    refine fp_aload_n (i := 0) (r := p0) dd_Mo_splits_195 rfl rfl (fr_pc (pc' := 196) rfl ?_)
                    refine fr_gI cl_11 18 (by decide) rfl sw_1090 dd_Mo_splits_196 (fun x49 => fr_pc (pc' := 199) rfl ?_)
                    refine fr_aI0 dd_Mo_splits_199 (fun x50 => fr_pc (pc' := 200) rfl ?_)
                    refine fp_ldc (v := (1000000 : Int32)) dd_Mo_splits_200 sw_1346 (fr_pc (pc' := 202) rfl ?_)
                    refine fr_bnd (l1 := (fun (v60 : (Int32)) => sf_p 240 [some (sf_rv p0), some (.int p1), some (.int b1), some (.int x4), some (.int v29), some (.int b42)] [.int v60, .int x47, sf_rv x46])) ?_ (fun v60 => ?_)
                    · refine fr_icmp_le (tgt := 217) dd_Mo_splits_202 rfl (fun _ => ?_) (fun _ => ?_)
                      · refine fp_bipush (v := (10 : Int32)) dd_Mo_splits_217 (by decide) (fr_pc (pc' := 219) rfl ?_)
                        refine fp_aload_n (i := 0) (r := p0) dd_Mo_splits_219 rfl rfl (fr_pc (pc' := 220) rfl ?_)
                        refine fr_gR cl_11 16 (by decide) rfl sw_1088 dd_Mo_splits_220 (fun x52 => fr_pc (pc' := 223) rfl ?_)
                        refine fp_aload_n (i := 0) (r := p0) dd_Mo_splits_223 rfl rfl (fr_pc (pc' := 224) rfl ?_)
                        refine fr_gI cl_11 18 (by decide) rfl sw_1090 dd_Mo_splits_224 (fun x53 => fr_pc (pc' := 227) rfl ?_)
                        refine fr_aI0 dd_Mo_splits_227 (fun x54 => fr_pc (pc' := 228) rfl ?_)
                        refine fp_imul dd_Mo_splits_228 (fr_pc (pc' := 229) rfl ?_)
                        refine fp_aload_n (i := 0) (r := p0) dd_Mo_splits_229 rfl rfl (fr_pc (pc' := 230) rfl ?_)
                        refine fr_gR cl_11 11 (by decide) rfl sw_1083 dd_Mo_splits_230 (fun x55 => fr_pc (pc' := 233) rfl ?_)
                        refine fp_iload (i := 5) (x := b42) dd_Mo_splits_233 rfl (fr_pc (pc' := 235) rfl ?_)
                        refine fr_aI2 dd_Mo_splits_235 (fun x56 => fr_pc (pc' := 236) rfl ?_)
                        refine fp_iadd dd_Mo_splits_236 (fr_pc (pc' := 237) rfl ?_)
                        refine fp_bipush (v := (48 : Int32)) dd_Mo_splits_237 (by decide) (fr_pc (pc' := 239) rfl ?_)
                        refine fp_isub dd_Mo_splits_239 (fr_pc (pc' := 240) rfl ?_)
                        exact fr_ret rfl
                      · refine fr_pc (pc' := 205) rfl ?_
                        refine fp_aload_n (i := 0) (r := p0) dd_Mo_splits_205 rfl rfl (fr_pc (pc' := 206) rfl ?_)
                        refine fr_gR cl_11 16 (by decide) rfl sw_1088 dd_Mo_splits_206 (fun x57 => fr_pc (pc' := 209) rfl ?_)
                        refine fp_aload_n (i := 0) (r := p0) dd_Mo_splits_209 rfl rfl (fr_pc (pc' := 210) rfl ?_)
                        refine fr_gI cl_11 18 (by decide) rfl sw_1090 dd_Mo_splits_210 (fun x58 => fr_pc (pc' := 213) rfl ?_)
                        refine fr_aI0 dd_Mo_splits_213 (fun x59 => fr_pc (pc' := 214) rfl ?_)
                        refine fp_goto (tgt := 240) dd_Mo_splits_214 rfl ?_
                        exact fr_ret rfl
                    · refine fr_sI0 dd_Mo_splits_240 (fr_pc (pc' := 241) rfl ?_)
                      refine fr_niinc (i := 5) (x := b42) (w := (1 : Int32)) dd_Mo_splits_241 rfl (by decide) (Nat.le_of_ble_eq_true rfl) (fun _ => c1_i rfl) (fun y61 => fr_to (pc' := 244) (env' := [some (sf_rv p0), some (.int p1), some (.int b1), some (.int x4), some (.int v29), some (.int y61)]) (stk' := []) rfl rfl rfl ?_)
                      refine fp_goto (tgt := 169) dd_Mo_splits_244 rfl ?_
                      exact fr_ret rfl
              · refine fp_aload_n (i := 0) (r := p0) dd_Mo_splits_247 rfl rfl (fr_pc (pc' := 248) rfl ?_)
                refine fp_dup_r dd_Mo_splits_248 (fr_pc (pc' := 249) rfl ?_)
                refine fr_gI cl_11 18 (by decide) rfl sw_1090 dd_Mo_splits_249 (fun x63 => fr_pc (pc' := 252) rfl ?_)
                refine fp_iconst (v := (1 : Int32)) dd_Mo_splits_252 (by decide) (fr_pc (pc' := 253) rfl ?_)
                refine fp_iadd dd_Mo_splits_253 (fr_pc (pc' := 254) rfl ?_)
                refine fr_pI cl_11 18 (by decide) rfl sw_1090 rfl ⟨rfl, rfl⟩ dd_Mo_splits_254 (fr_pc (pc' := 257) rfl ?_)
                refine fp_iload (i := 4) (x := v29) dd_Mo_splits_257 rfl (fr_pc (pc' := 259) rfl ?_)
                refine fp_istore_n (i := 2) dd_Mo_splits_259 rfl (Nat.le_of_ble_eq_true rfl) (fun _ => c1_i rfl) (fr_to (pc' := 260) (env' := [some (sf_rv p0), some (.int p1), some (.int v29), some (.int x4), some (.int v29), none]) (stk' := []) rfl rfl rfl ?_)
                refine fp_goto (tgt := 7) dd_Mo_splits_260 rfl ?_
                refine fr_wk [true, true, true, false, false, false] ?_
                exact fr_ret rfl
  · refine fp_aload_n (i := 0) (r := p0) dd_Mo_splits_263 rfl rfl (fr_pc (pc' := 264) rfl ?_)
    refine fr_gR cl_11 17 (by decide) rfl sw_1089 dd_Mo_splits_264 (fun x65 => fr_pc (pc' := 267) rfl ?_)
    refine fp_aload_n (i := 0) (r := p0) dd_Mo_splits_267 rfl rfl (fr_pc (pc' := 268) rfl ?_)
    refine fr_gI cl_11 18 (by decide) rfl sw_1090 dd_Mo_splits_268 (fun x66 => fr_pc (pc' := 271) rfl ?_)
    refine fp_iload_n (i := 1) (x := p1) dd_Mo_splits_271 rfl rfl (fr_pc (pc' := 272) rfl ?_)
    refine fr_sI0 dd_Mo_splits_272 (fr_pc (pc' := 273) rfl ?_)
    refine fp_aload_n (i := 0) (r := p0) dd_Mo_splits_273 rfl rfl (fr_pc (pc' := 274) rfl ?_)
    refine fr_gR cl_11 15 (by decide) rfl sw_1087 dd_Mo_splits_274 (fun x67 => fr_pc (pc' := 277) rfl ?_)
    refine fp_aload_n (i := 0) (r := p0) dd_Mo_splits_277 rfl rfl (fr_pc (pc' := 278) rfl ?_)
    refine fr_gI cl_11 18 (by decide) rfl sw_1090 dd_Mo_splits_278 (fun x68 => fr_pc (pc' := 281) rfl ?_)
    refine fp_iconst (v := (0 : Int32)) dd_Mo_splits_281 (by decide) (fr_pc (pc' := 282) rfl ?_)
    refine fr_sI0 dd_Mo_splits_282 (fr_pc (pc' := 283) rfl ?_)
    refine fp_aload_n (i := 0) (r := p0) dd_Mo_splits_283 rfl rfl (fr_pc (pc' := 284) rfl ?_)
    refine fr_gR cl_11 16 (by decide) rfl sw_1088 dd_Mo_splits_284 (fun x69 => fr_pc (pc' := 287) rfl ?_)
    refine fp_aload_n (i := 0) (r := p0) dd_Mo_splits_287 rfl rfl (fr_pc (pc' := 288) rfl ?_)
    refine fr_gI cl_11 18 (by decide) rfl sw_1090 dd_Mo_splits_288 (fun x70 => fr_pc (pc' := 291) rfl ?_)
    refine fp_iconst (v := (0 : Int32)) dd_Mo_splits_291 (by decide) (fr_pc (pc' := 292) rfl ?_)
    refine fr_sI0 dd_Mo_splits_292 (fr_pc (pc' := 293) rfl ?_)
    exact fr_vret rfl rfl dd_Mo_splits_293
theorem mt_Mo_fine : sf_Mt ({ cls := "SplitFaresModel", name := "fine", desc := "()Z" } : Jvm.MethodName) prog_13_method_37_code 1 (some .boolean) 0 := ⟨sw_1362, sw_12, ⟨by decide, by decide, by decide +kernel⟩, by decide⟩
theorem dd_Mo_fine_0 : decode prog_13_method_37_code 0 = .ok (.aload_n 0, 1) := by decide +kernel
theorem dd_Mo_fine_1 : decode prog_13_method_37_code 1 = .ok (.getfield 175, 3) := by decide +kernel
theorem dd_Mo_fine_4 : decode prog_13_method_37_code 4 = .ok (.iconst (-1), 1) := by decide +kernel
theorem dd_Mo_fine_5 : decode prog_13_method_37_code 5 = .ok (.if_icmp .ne 7, 3) := by decide +kernel
theorem dd_Mo_fine_8 : decode prog_13_method_37_code 8 = .ok (.iconst 1, 1) := by decide +kernel
theorem dd_Mo_fine_9 : decode prog_13_method_37_code 9 = .ok (.goto 4, 3) := by decide +kernel
theorem dd_Mo_fine_12 : decode prog_13_method_37_code 12 = .ok (.iconst 0, 1) := by decide +kernel
theorem dd_Mo_fine_13 : decode prog_13_method_37_code 13 = .ok (.ireturn, 1) := by decide +kernel
def jx_Mo_fine (p0 : Option Nat) : sf_M (Int32) :=
  sf_bnd (sf_gI 11 21 p0) fun x1 =>
  if x1 = (-1 : Int32) then (
  sf_ret (1 : Int32)
  ) else (
  sf_ret (0 : Int32)
  )
set_option maxRecDepth 20000 in
set_option maxHeartbeats 4000000 in
theorem ok_Mo_fine (p0 : Option Nat) : sf_Ok ({ cls := "SplitFaresModel", name := "fine", desc := "()Z" } : Jvm.MethodName) prog_13_method_37_code 1 (some .boolean) 0 [sf_rv p0] (jx_Mo_fine p0) (fun r => some (.int r)) := by
  refine sf_Ok.of (env := [some (sf_rv p0)]) (plainFor_of_name (by decide)) [false] (fun G => ⟨pk_r, trivial⟩) (Nat.le_of_ble_eq_true rfl) rfl (fun X => ?_)
  unfold jx_Mo_fine
  refine fp_aload_n (i := 0) (r := p0) dd_Mo_fine_0 rfl rfl (fr_pc (pc' := 1) rfl ?_)
  refine fr_gI cl_11 21 (by decide) rfl sw_1093 dd_Mo_fine_1 (fun x1 => fr_pc (pc' := 4) rfl ?_)
  refine fp_iconst (v := (-1 : Int32)) dd_Mo_fine_4 (by decide) (fr_pc (pc' := 5) rfl ?_)
  refine fr_icmp_ne (tgt := 12) dd_Mo_fine_5 rfl (fun _ => ?_) (fun _ => ?_)
  · refine fr_pc (pc' := 8) rfl ?_
    refine fp_iconst (v := (1 : Int32)) dd_Mo_fine_8 (by decide) (fr_pc (pc' := 9) rfl ?_)
    refine fp_goto (tgt := 13) dd_Mo_fine_9 rfl ?_
    exact fr_zret0 (v := (1 : Int32)) (Or.inr rfl) rfl rfl dd_Mo_fine_13
  · refine fp_iconst (v := (0 : Int32)) dd_Mo_fine_12 (by decide) (fr_pc (pc' := 13) rfl ?_)
    exact fr_zret0 (v := (0 : Int32)) (Or.inl rfl) rfl rfl dd_Mo_fine_13
theorem mt_Mo_faults : sf_Mt ({ cls := "SplitFaresModel", name := "faults", desc := "()V" } : Jvm.MethodName) prog_13_method_38_code 1 none 0 := ⟨sw_1381, sw_12, ⟨by decide, by decide, by decide +kernel⟩, by decide⟩
theorem dd_Mo_faults_0 : decode prog_13_method_38_code 0 = .ok (.aload_n 0, 1) := by decide +kernel
theorem dd_Mo_faults_1 : decode prog_13_method_38_code 1 = .ok (.invokevirtual 178, 3) := by decide +kernel
theorem dd_Mo_faults_4 : decode prog_13_method_38_code 4 = .ok (.ifCond .eq 16, 3) := by decide +kernel
theorem dd_Mo_faults_7 : decode prog_13_method_38_code 7 = .ok (.aload_n 0, 1) := by decide +kernel
theorem dd_Mo_faults_8 : decode prog_13_method_38_code 8 = .ok (.aload_n 0, 1) := by decide +kernel
theorem dd_Mo_faults_9 : decode prog_13_method_38_code 9 = .ok (.getfield 64, 3) := by decide +kernel
theorem dd_Mo_faults_12 : decode prog_13_method_38_code 12 = .ok (.aload_n 0, 1) := by decide +kernel
theorem dd_Mo_faults_13 : decode prog_13_method_38_code 13 = .ok (.getfield 182, 3) := by decide +kernel
theorem dd_Mo_faults_16 : decode prog_13_method_38_code 16 = .ok (.iaload, 1) := by decide +kernel
theorem dd_Mo_faults_17 : decode prog_13_method_38_code 17 = .ok (.putfield 175, 3) := by decide +kernel
theorem dd_Mo_faults_20 : decode prog_13_method_38_code 20 = .ok (.return_, 1) := by decide +kernel
def jx_Mo_faults (p0 : Option Nat) : sf_M (Unit) :=
  sf_bnd (sf_rc 11 p0 (jx_Mo_fine p0)) fun x1 =>
  if x1 = 0 then (
  sf_ret ()
  ) else (
  sf_bnd (sf_gR 11 17 p0) fun x3 =>
  sf_bnd (sf_gI 11 19 p0) fun x4 =>
  sf_bnd (sf_aI 0 x3 x4) fun x5 =>
  sf_bnd (sf_pI 11 21 p0 x5) fun _ =>
  sf_ret ()
  )
set_option maxRecDepth 20000 in
set_option maxHeartbeats 4000000 in
theorem ok_Mo_faults (p0 : Option Nat) : sf_Ok ({ cls := "SplitFaresModel", name := "faults", desc := "()V" } : Jvm.MethodName) prog_13_method_38_code 1 none 1 [sf_rv p0] (jx_Mo_faults p0) (fun _ => none) := by
  refine sf_Ok.of (env := [some (sf_rv p0)]) (plainFor_of_name (by decide)) [false] (fun G => ⟨pk_r, trivial⟩) (Nat.le_of_ble_eq_true rfl) rfl (fun X => ?_)
  unfold jx_Mo_faults
  refine fp_aload_n (i := 0) (r := p0) dd_Mo_faults_0 rfl rfl (fr_pc (pc' := 1) rfl ?_)
  refine fr_callV (stk := []) (As := []) cl_11 (ok_Mo_fine p0) mt_Mo_fine rfl rfl sw_1359 sw_1361 sp_39 (by decide) (Nat.le_of_ble_eq_true rfl) dd_Mo_faults_1 (fun x1 => fr_to (pc' := 4) (env' := [some (sf_rv p0)]) (stk' := [.int x1]) rfl rfl rfl ?_)
  refine fr_if_eq (tgt := 20) dd_Mo_faults_4 rfl (fun _ => ?_) (fun _ => ?_)
  · exact fr_vret rfl rfl dd_Mo_faults_20
  · refine fr_pc (pc' := 7) rfl ?_
    refine fp_aload_n (i := 0) (r := p0) dd_Mo_faults_7 rfl rfl (fr_pc (pc' := 8) rfl ?_)
    refine fp_aload_n (i := 0) (r := p0) dd_Mo_faults_8 rfl rfl (fr_pc (pc' := 9) rfl ?_)
    refine fr_gR cl_11 17 (by decide) rfl sw_1089 dd_Mo_faults_9 (fun x3 => fr_pc (pc' := 12) rfl ?_)
    refine fp_aload_n (i := 0) (r := p0) dd_Mo_faults_12 rfl rfl (fr_pc (pc' := 13) rfl ?_)
    refine fr_gI cl_11 19 (by decide) rfl sw_1091 dd_Mo_faults_13 (fun x4 => fr_pc (pc' := 16) rfl ?_)
    refine fr_aI0 dd_Mo_faults_16 (fun x5 => fr_pc (pc' := 17) rfl ?_)
    refine fr_pI cl_11 21 (by decide) rfl sw_1093 rfl ⟨rfl, rfl⟩ dd_Mo_faults_17 (fr_pc (pc' := 20) rfl ?_)
    exact fr_vret rfl rfl dd_Mo_faults_20
theorem mt_Mo_takes0 : sf_Mt ({ cls := "SplitFaresModel", name := "takes0", desc := "(I)Z" } : Jvm.MethodName) prog_13_method_39_code 3 (some .boolean) 1 := ⟨sw_1358, sw_12, ⟨by decide, by decide, by decide +kernel⟩, by decide⟩
theorem dd_Mo_takes0_0 : decode prog_13_method_39_code 0 = .ok (.aload_n 0, 1) := by decide +kernel
theorem dd_Mo_takes0_1 : decode prog_13_method_39_code 1 = .ok (.invokevirtual 178, 3) := by decide +kernel
theorem dd_Mo_takes0_4 : decode prog_13_method_39_code 4 = .ok (.ifCond .eq 20, 3) := by decide +kernel
theorem dd_Mo_takes0_7 : decode prog_13_method_39_code 7 = .ok (.aload_n 0, 1) := by decide +kernel
theorem dd_Mo_takes0_8 : decode prog_13_method_39_code 8 = .ok (.getfield 58, 3) := by decide +kernel
theorem dd_Mo_takes0_11 : decode prog_13_method_39_code 11 = .ok (.aload_n 0, 1) := by decide +kernel
theorem dd_Mo_takes0_12 : decode prog_13_method_39_code 12 = .ok (.getfield 182, 3) := by decide +kernel
theorem dd_Mo_takes0_15 : decode prog_13_method_39_code 15 = .ok (.iaload, 1) := by decide +kernel
theorem dd_Mo_takes0_16 : decode prog_13_method_39_code 16 = .ok (.iload_n 1, 1) := by decide +kernel
theorem dd_Mo_takes0_17 : decode prog_13_method_39_code 17 = .ok (.if_icmp .ne 7, 3) := by decide +kernel
theorem dd_Mo_takes0_20 : decode prog_13_method_39_code 20 = .ok (.iconst 1, 1) := by decide +kernel
theorem dd_Mo_takes0_21 : decode prog_13_method_39_code 21 = .ok (.goto 4, 3) := by decide +kernel
theorem dd_Mo_takes0_24 : decode prog_13_method_39_code 24 = .ok (.iconst 0, 1) := by decide +kernel
theorem dd_Mo_takes0_25 : decode prog_13_method_39_code 25 = .ok (.istore_n 2, 1) := by decide +kernel
theorem dd_Mo_takes0_26 : decode prog_13_method_39_code 26 = .ok (.iload_n 2, 1) := by decide +kernel
theorem dd_Mo_takes0_27 : decode prog_13_method_39_code 27 = .ok (.ifCond .eq 13, 3) := by decide +kernel
theorem dd_Mo_takes0_30 : decode prog_13_method_39_code 30 = .ok (.aload_n 0, 1) := by decide +kernel
theorem dd_Mo_takes0_31 : decode prog_13_method_39_code 31 = .ok (.dup, 1) := by decide +kernel
theorem dd_Mo_takes0_32 : decode prog_13_method_39_code 32 = .ok (.getfield 182, 3) := by decide +kernel
theorem dd_Mo_takes0_35 : decode prog_13_method_39_code 35 = .ok (.iconst 1, 1) := by decide +kernel
theorem dd_Mo_takes0_36 : decode prog_13_method_39_code 36 = .ok (.iadd, 1) := by decide +kernel
theorem dd_Mo_takes0_37 : decode prog_13_method_39_code 37 = .ok (.putfield 182, 3) := by decide +kernel
theorem dd_Mo_takes0_40 : decode prog_13_method_39_code 40 = .ok (.iload_n 2, 1) := by decide +kernel
theorem dd_Mo_takes0_41 : decode prog_13_method_39_code 41 = .ok (.ireturn, 1) := by decide +kernel
def jx_Mo_takes0 (p0 : Option Nat) (p1 : Int32) : sf_M (Int32) :=
  sf_bnd (sf_rc 11 p0 (jx_Mo_fine p0)) fun x1 =>
  sf_bnd (α := (Int32)) (
  sf_or (α := (Int32)) (β := (Unit)) (
  if x1 = 0 then (
  sf_ret (.inr ())
  ) else (
  sf_bnd (sf_gR 11 15 p0) fun x3 =>
  sf_bnd (sf_gI 11 19 p0) fun x4 =>
  sf_bnd (sf_aI 0 x3 x4) fun x5 =>
  if x5 = p1 then (
  sf_ret (.inl (1 : Int32))
  ) else (
  sf_ret (.inr ())
  )
  )
  ) (fun v7 =>
  sf_ret (0 : Int32)
  )
  ) (fun v8 =>
  if v8 = 0 then (
  sf_bnd (sf_rz v8) fun x10 =>
  sf_ret x10
  ) else (
  sf_bnd (sf_gI 11 19 p0) fun x11 =>
  sf_bnd (sf_pI 11 19 p0 (x11 + (1 : Int32))) fun _ =>
  sf_bnd (sf_rz v8) fun x12 =>
  sf_ret x12
  )
  )
set_option maxRecDepth 20000 in
set_option maxHeartbeats 4000000 in
theorem ok_Mo_takes0 (p0 : Option Nat) (p1 : Int32) : sf_Ok ({ cls := "SplitFaresModel", name := "takes0", desc := "(I)Z" } : Jvm.MethodName) prog_13_method_39_code 3 (some .boolean) 1 [sf_rv p0, .int p1] (jx_Mo_takes0 p0 p1) (fun r => some (.int r)) := by
  refine sf_Ok.of (env := [some (sf_rv p0), some (.int p1), none]) (plainFor_of_name (by decide)) [false, false] (fun G => ⟨pk_r, pk_i, trivial⟩) (Nat.le_of_ble_eq_true rfl) rfl (fun X => ?_)
  unfold jx_Mo_takes0
  refine fp_aload_n (i := 0) (r := p0) dd_Mo_takes0_0 rfl rfl (fr_pc (pc' := 1) rfl ?_)
  refine fr_callV (stk := []) (As := []) cl_11 (ok_Mo_fine p0) mt_Mo_fine rfl rfl sw_1359 sw_1361 sp_39 (by decide) (Nat.le_of_ble_eq_true rfl) dd_Mo_takes0_1 (fun x1 => fr_to (pc' := 4) (env' := [some (sf_rv p0), some (.int p1), none]) (stk' := [.int x1]) rfl rfl rfl ?_)
  refine fr_bnd (l1 := (fun (v8 : (Int32)) => sf_p 25 [some (sf_rv p0), some (.int p1), none] [.int v8])) ?_ (fun v8 => ?_)
  · refine fr_or (l1 := (fun (v7 : (Unit)) => sf_p 24 [some (sf_rv p0), some (.int p1), none] [])) ?_ (fun v7 => ?_)
    · refine fr_if_eq (tgt := 24) dd_Mo_takes0_4 rfl (fun _ => ?_) (fun _ => ?_)
      · exact fr_ret rfl
      · refine fr_pc (pc' := 7) rfl ?_
        refine fp_aload_n (i := 0) (r := p0) dd_Mo_takes0_7 rfl rfl (fr_pc (pc' := 8) rfl ?_)
        refine fr_gR cl_11 15 (by decide) rfl sw_1087 dd_Mo_takes0_8 (fun x3 => fr_pc (pc' := 11) rfl ?_)
        refine fp_aload_n (i := 0) (r := p0) dd_Mo_takes0_11 rfl rfl (fr_pc (pc' := 12) rfl ?_)
        refine fr_gI cl_11 19 (by decide) rfl sw_1091 dd_Mo_takes0_12 (fun x4 => fr_pc (pc' := 15) rfl ?_)
        refine fr_aI0 dd_Mo_takes0_15 (fun x5 => fr_pc (pc' := 16) rfl ?_)
        refine fp_iload_n (i := 1) (x := p1) dd_Mo_takes0_16 rfl rfl (fr_pc (pc' := 17) rfl ?_)
        refine fr_icmp_ne (tgt := 24) dd_Mo_takes0_17 rfl (fun _ => ?_) (fun _ => ?_)
        · refine fr_pc (pc' := 20) rfl ?_
          refine fp_iconst (v := (1 : Int32)) dd_Mo_takes0_20 (by decide) (fr_pc (pc' := 21) rfl ?_)
          refine fp_goto (tgt := 25) dd_Mo_takes0_21 rfl ?_
          exact fr_ret rfl
        · exact fr_ret rfl
    · refine fp_iconst (v := (0 : Int32)) dd_Mo_takes0_24 (by decide) (fr_pc (pc' := 25) rfl ?_)
      exact fr_ret rfl
  · refine fp_istore_n (i := 2) dd_Mo_takes0_25 rfl (Nat.le_of_ble_eq_true rfl) (fun _ => c1_i rfl) (fr_to (pc' := 26) (env' := [some (sf_rv p0), some (.int p1), some (.int v8)]) (stk' := []) rfl rfl rfl ?_)
    refine fp_iload_n (i := 2) (x := v8) dd_Mo_takes0_26 rfl rfl (fr_pc (pc' := 27) rfl ?_)
    refine fr_if_eq (tgt := 40) dd_Mo_takes0_27 rfl (fun _ => ?_) (fun _ => ?_)
    · refine fp_iload_n (i := 2) (x := v8) dd_Mo_takes0_40 rfl rfl (fr_pc (pc' := 41) rfl ?_)
      exact fr_zret (r := fun x10 => x10) (fun _ => rfl) rfl dd_Mo_takes0_41
    · refine fr_pc (pc' := 30) rfl ?_
      refine fp_aload_n (i := 0) (r := p0) dd_Mo_takes0_30 rfl rfl (fr_pc (pc' := 31) rfl ?_)
      refine fp_dup_r dd_Mo_takes0_31 (fr_pc (pc' := 32) rfl ?_)
      refine fr_gI cl_11 19 (by decide) rfl sw_1091 dd_Mo_takes0_32 (fun x11 => fr_pc (pc' := 35) rfl ?_)
      refine fp_iconst (v := (1 : Int32)) dd_Mo_takes0_35 (by decide) (fr_pc (pc' := 36) rfl ?_)
      refine fp_iadd dd_Mo_takes0_36 (fr_pc (pc' := 37) rfl ?_)
      refine fr_pI cl_11 19 (by decide) rfl sw_1091 rfl ⟨rfl, rfl⟩ dd_Mo_takes0_37 (fr_pc (pc' := 40) rfl ?_)
      refine fp_iload_n (i := 2) (x := v8) dd_Mo_takes0_40 rfl rfl (fr_pc (pc' := 41) rfl ?_)
      exact fr_zret (r := fun x12 => x12) (fun _ => rfl) rfl dd_Mo_takes0_41
theorem mt_Mo_must : sf_Mt ({ cls := "SplitFaresModel", name := "must", desc := "(I)V" } : Jvm.MethodName) prog_13_method_40_code 2 none 1 := ⟨sw_1385, sw_12, ⟨by decide, by decide, by decide +kernel⟩, by decide⟩
theorem dd_Mo_must_0 : decode prog_13_method_40_code 0 = .ok (.aload_n 0, 1) := by decide +kernel
theorem dd_Mo_must_1 : decode prog_13_method_40_code 1 = .ok (.iload_n 1, 1) := by decide +kernel
theorem dd_Mo_must_2 : decode prog_13_method_40_code 2 = .ok (.invokevirtual 185, 3) := by decide +kernel
theorem dd_Mo_must_5 : decode prog_13_method_40_code 5 = .ok (.ifCond .ne 7, 3) := by decide +kernel
theorem dd_Mo_must_8 : decode prog_13_method_40_code 8 = .ok (.aload_n 0, 1) := by decide +kernel
theorem dd_Mo_must_9 : decode prog_13_method_40_code 9 = .ok (.invokevirtual 188, 3) := by decide +kernel
theorem dd_Mo_must_12 : decode prog_13_method_40_code 12 = .ok (.return_, 1) := by decide +kernel
def jx_Mo_must (p0 : Option Nat) (p1 : Int32) : sf_M (Unit) :=
  sf_bnd (sf_rc 11 p0 (jx_Mo_takes0 p0 p1)) fun x1 =>
  if x1 = 0 then (
  sf_bnd (sf_rc 11 p0 (jx_Mo_faults p0)) fun _ =>
  sf_ret ()
  ) else (
  sf_ret ()
  )
set_option maxRecDepth 20000 in
set_option maxHeartbeats 4000000 in
theorem ok_Mo_must (p0 : Option Nat) (p1 : Int32) : sf_Ok ({ cls := "SplitFaresModel", name := "must", desc := "(I)V" } : Jvm.MethodName) prog_13_method_40_code 2 none 2 [sf_rv p0, .int p1] (jx_Mo_must p0 p1) (fun _ => none) := by
  refine sf_Ok.of (env := [some (sf_rv p0), some (.int p1)]) (plainFor_of_name (by decide)) [false, false] (fun G => ⟨pk_r, pk_i, trivial⟩) (Nat.le_of_ble_eq_true rfl) rfl (fun X => ?_)
  unfold jx_Mo_must
  refine fp_aload_n (i := 0) (r := p0) dd_Mo_must_0 rfl rfl (fr_pc (pc' := 1) rfl ?_)
  refine fp_iload_n (i := 1) (x := p1) dd_Mo_must_1 rfl rfl (fr_pc (pc' := 2) rfl ?_)
  refine fr_callV (stk := []) (As := [.int p1]) cl_11 (ok_Mo_takes0 p0 p1) mt_Mo_takes0 rfl rfl sw_1355 sw_1357 sp_38 (by decide) (Nat.le_of_ble_eq_true rfl) dd_Mo_must_2 (fun x1 => fr_to (pc' := 5) (env' := [some (sf_rv p0), some (.int p1)]) (stk' := [.int x1]) rfl rfl rfl ?_)
  refine fr_if_ne (tgt := 12) dd_Mo_must_5 rfl (fun _ => ?_) (fun _ => ?_)
  · refine fr_pc (pc' := 8) rfl ?_
    refine fp_aload_n (i := 0) (r := p0) dd_Mo_must_8 rfl rfl (fr_pc (pc' := 9) rfl ?_)
    refine fr_callV (stk := []) (As := []) cl_11 (ok_Mo_faults p0) mt_Mo_faults rfl rfl sw_1378 sw_1380 sp_43 (by decide) (Nat.le_of_ble_eq_true rfl) dd_Mo_must_9 (fun u3 => fr_to (pc' := 12) (env' := [some (sf_rv p0), some (.int p1)]) (stk' := []) rfl rfl rfl ?_)
    exact fr_vret rfl rfl dd_Mo_must_12
  · exact fr_vret rfl rfl dd_Mo_must_12
theorem mt_Mo_leaf : sf_Mt ({ cls := "SplitFaresModel", name := "leaf", desc := "()V" } : Jvm.MethodName) prog_13_method_41_code 1 none 0 := ⟨sw_1389, sw_12, ⟨by decide, by decide, by decide +kernel⟩, by decide⟩
theorem dd_Mo_leaf_0 : decode prog_13_method_41_code 0 = .ok (.aload_n 0, 1) := by decide +kernel
theorem dd_Mo_leaf_1 : decode prog_13_method_41_code 1 = .ok (.getfield 191, 3) := by decide +kernel
theorem dd_Mo_leaf_4 : decode prog_13_method_41_code 4 = .ok (.bipush 50, 2) := by decide +kernel
theorem dd_Mo_leaf_6 : decode prog_13_method_41_code 6 = .ok (.if_icmp .ne 7, 3) := by decide +kernel
theorem dd_Mo_leaf_9 : decode prog_13_method_41_code 9 = .ok (.aload_n 0, 1) := by decide +kernel
theorem dd_Mo_leaf_10 : decode prog_13_method_41_code 10 = .ok (.invokevirtual 188, 3) := by decide +kernel
theorem dd_Mo_leaf_13 : decode prog_13_method_41_code 13 = .ok (.aload_n 0, 1) := by decide +kernel
theorem dd_Mo_leaf_14 : decode prog_13_method_41_code 14 = .ok (.dup, 1) := by decide +kernel
theorem dd_Mo_leaf_15 : decode prog_13_method_41_code 15 = .ok (.getfield 191, 3) := by decide +kernel
theorem dd_Mo_leaf_18 : decode prog_13_method_41_code 18 = .ok (.iconst 1, 1) := by decide +kernel
theorem dd_Mo_leaf_19 : decode prog_13_method_41_code 19 = .ok (.iadd, 1) := by decide +kernel
theorem dd_Mo_leaf_20 : decode prog_13_method_41_code 20 = .ok (.putfield 191, 3) := by decide +kernel
theorem dd_Mo_leaf_23 : decode prog_13_method_41_code 23 = .ok (.aload_n 0, 1) := by decide +kernel
theorem dd_Mo_leaf_24 : decode prog_13_method_41_code 24 = .ok (.invokevirtual 178, 3) := by decide +kernel
theorem dd_Mo_leaf_27 : decode prog_13_method_41_code 27 = .ok (.ifCond .eq 13, 3) := by decide +kernel
theorem dd_Mo_leaf_30 : decode prog_13_method_41_code 30 = .ok (.aload_n 0, 1) := by decide +kernel
theorem dd_Mo_leaf_31 : decode prog_13_method_41_code 31 = .ok (.dup, 1) := by decide +kernel
theorem dd_Mo_leaf_32 : decode prog_13_method_41_code 32 = .ok (.getfield 182, 3) := by decide +kernel
theorem dd_Mo_leaf_35 : decode prog_13_method_41_code 35 = .ok (.iconst 1, 1) := by decide +kernel
theorem dd_Mo_leaf_36 : decode prog_13_method_41_code 36 = .ok (.iadd, 1) := by decide +kernel
theorem dd_Mo_leaf_37 : decode prog_13_method_41_code 37 = .ok (.putfield 182, 3) := by decide +kernel
theorem dd_Mo_leaf_40 : decode prog_13_method_41_code 40 = .ok (.return_, 1) := by decide +kernel
def jx_Mo_leaf (p0 : Option Nat) : sf_M (Unit) :=
  sf_bnd (sf_gI 11 20 p0) fun x1 =>
  sf_bnd (α := (Unit)) (
  if x1 = (50 : Int32) then (
  sf_bnd (sf_rc 11 p0 (jx_Mo_faults p0)) fun _ =>
  sf_ret ()
  ) else (
  sf_ret ()
  )
  ) (fun v4 =>
  sf_bnd (sf_gI 11 20 p0) fun x5 =>
  sf_bnd (sf_pI 11 20 p0 (x5 + (1 : Int32))) fun _ =>
  sf_bnd (sf_rc 11 p0 (jx_Mo_fine p0)) fun x6 =>
  if x6 = 0 then (
  sf_ret ()
  ) else (
  sf_bnd (sf_gI 11 19 p0) fun x8 =>
  sf_bnd (sf_pI 11 19 p0 (x8 + (1 : Int32))) fun _ =>
  sf_ret ()
  )
  )
set_option maxRecDepth 20000 in
set_option maxHeartbeats 4000000 in
theorem ok_Mo_leaf (p0 : Option Nat) : sf_Ok ({ cls := "SplitFaresModel", name := "leaf", desc := "()V" } : Jvm.MethodName) prog_13_method_41_code 1 none 2 [sf_rv p0] (jx_Mo_leaf p0) (fun _ => none) := by
  refine sf_Ok.of (env := [some (sf_rv p0)]) (plainFor_of_name (by decide)) [false] (fun G => ⟨pk_r, trivial⟩) (Nat.le_of_ble_eq_true rfl) rfl (fun X => ?_)
  unfold jx_Mo_leaf
  refine fp_aload_n (i := 0) (r := p0) dd_Mo_leaf_0 rfl rfl (fr_pc (pc' := 1) rfl ?_)
  refine fr_gI cl_11 20 (by decide) rfl sw_1092 dd_Mo_leaf_1 (fun x1 => fr_pc (pc' := 4) rfl ?_)
  refine fp_bipush (v := (50 : Int32)) dd_Mo_leaf_4 (by decide) (fr_pc (pc' := 6) rfl ?_)
  refine fr_bnd (l1 := (fun (v4 : (Unit)) => sf_p 13 [some (sf_rv p0)] [])) ?_ (fun v4 => ?_)
  · refine fr_icmp_ne (tgt := 13) dd_Mo_leaf_6 rfl (fun _ => ?_) (fun _ => ?_)
    · refine fr_pc (pc' := 9) rfl ?_
      refine fp_aload_n (i := 0) (r := p0) dd_Mo_leaf_9 rfl rfl (fr_pc (pc' := 10) rfl ?_)
      refine fr_callV (stk := []) (As := []) cl_11 (ok_Mo_faults p0) mt_Mo_faults rfl rfl sw_1378 sw_1380 sp_43 (by decide) (Nat.le_of_ble_eq_true rfl) dd_Mo_leaf_10 (fun u3 => fr_to (pc' := 13) (env' := [some (sf_rv p0)]) (stk' := []) rfl rfl rfl ?_)
      exact fr_ret rfl
    · exact fr_ret rfl
  · refine fp_aload_n (i := 0) (r := p0) dd_Mo_leaf_13 rfl rfl (fr_pc (pc' := 14) rfl ?_)
    refine fp_dup_r dd_Mo_leaf_14 (fr_pc (pc' := 15) rfl ?_)
    refine fr_gI cl_11 20 (by decide) rfl sw_1092 dd_Mo_leaf_15 (fun x5 => fr_pc (pc' := 18) rfl ?_)
    refine fp_iconst (v := (1 : Int32)) dd_Mo_leaf_18 (by decide) (fr_pc (pc' := 19) rfl ?_)
    refine fp_iadd dd_Mo_leaf_19 (fr_pc (pc' := 20) rfl ?_)
    refine fr_pI cl_11 20 (by decide) rfl sw_1092 rfl ⟨rfl, rfl⟩ dd_Mo_leaf_20 (fr_pc (pc' := 23) rfl ?_)
    refine fp_aload_n (i := 0) (r := p0) dd_Mo_leaf_23 rfl rfl (fr_pc (pc' := 24) rfl ?_)
    refine fr_callV (stk := []) (As := []) cl_11 (ok_Mo_fine p0) mt_Mo_fine rfl rfl sw_1359 sw_1361 sp_39 (by decide) (Nat.le_of_ble_eq_true rfl) dd_Mo_leaf_24 (fun x6 => fr_to (pc' := 27) (env' := [some (sf_rv p0)]) (stk' := [.int x6]) rfl rfl rfl ?_)
    refine fr_if_eq (tgt := 40) dd_Mo_leaf_27 rfl (fun _ => ?_) (fun _ => ?_)
    · exact fr_vret rfl rfl dd_Mo_leaf_40
    · refine fr_pc (pc' := 30) rfl ?_
      refine fp_aload_n (i := 0) (r := p0) dd_Mo_leaf_30 rfl rfl (fr_pc (pc' := 31) rfl ?_)
      refine fp_dup_r dd_Mo_leaf_31 (fr_pc (pc' := 32) rfl ?_)
      refine fr_gI cl_11 19 (by decide) rfl sw_1091 dd_Mo_leaf_32 (fun x8 => fr_pc (pc' := 35) rfl ?_)
      refine fp_iconst (v := (1 : Int32)) dd_Mo_leaf_35 (by decide) (fr_pc (pc' := 36) rfl ?_)
      refine fp_iadd dd_Mo_leaf_36 (fr_pc (pc' := 37) rfl ?_)
      refine fr_pI cl_11 19 (by decide) rfl sw_1091 rfl ⟨rfl, rfl⟩ dd_Mo_leaf_37 (fr_pc (pc' := 40) rfl ?_)
      exact fr_vret rfl rfl dd_Mo_leaf_40
theorem mt_Mo_sign : sf_Mt ({ cls := "SplitFaresModel", name := "sign", desc := "(C)I" } : Jvm.MethodName) prog_13_method_42_code 1 (some .int) 1 := ⟨sw_1377, sw_12, ⟨by decide, by decide, by decide +kernel⟩, by decide⟩
theorem dd_Mo_sign_0 : decode prog_13_method_42_code 0 = .ok (.bipush 100, 2) := by decide +kernel
theorem dd_Mo_sign_2 : decode prog_13_method_42_code 2 = .ok (.iload_n 0, 1) := by decide +kernel
theorem dd_Mo_sign_3 : decode prog_13_method_42_code 3 = .ok (.iadd, 1) := by decide +kernel
theorem dd_Mo_sign_4 : decode prog_13_method_42_code 4 = .ok (.ireturn, 1) := by decide +kernel
def jx_Mo_sign (p0 : Int32) : sf_M (Int32) :=
  sf_ret ((100 : Int32) + p0)
set_option maxRecDepth 20000 in
set_option maxHeartbeats 4000000 in
theorem ok_Mo_sign (p0 : Int32) : sf_Ok ({ cls := "SplitFaresModel", name := "sign", desc := "(C)I" } : Jvm.MethodName) prog_13_method_42_code 1 (some .int) 0 [.int p0] (jx_Mo_sign p0) (fun r => some (.int r)) := by
  refine sf_Ok.of (env := [some (.int p0)]) (plainFor_of_name (by decide)) [false] (fun G => ⟨pk_i, trivial⟩) (Nat.le_of_ble_eq_true rfl) rfl (fun X => ?_)
  unfold jx_Mo_sign
  refine fp_bipush (v := (100 : Int32)) dd_Mo_sign_0 (by decide) (fr_pc (pc' := 2) rfl ?_)
  refine fp_iload_n (i := 0) (x := p0) dd_Mo_sign_2 rfl rfl (fr_pc (pc' := 3) rfl ?_)
  refine fp_iadd dd_Mo_sign_3 (fr_pc (pc' := 4) rfl ?_)
  exact fr_iret (v := ((100 : Int32) + p0)) rfl rfl dd_Mo_sign_4
theorem mt_Mo_mustNumber : sf_Mt ({ cls := "SplitFaresModel", name := "mustNumber", desc := "(II)V" } : Jvm.MethodName) prog_13_method_43_code 3 none 2 := ⟨sw_1393, sw_12, ⟨by decide, by decide, by decide +kernel⟩, by decide⟩
theorem dd_Mo_mustNumber_0 : decode prog_13_method_43_code 0 = .ok (.aload_n 0, 1) := by decide +kernel
theorem dd_Mo_mustNumber_1 : decode prog_13_method_43_code 1 = .ok (.invokevirtual 178, 3) := by decide +kernel
theorem dd_Mo_mustNumber_4 : decode prog_13_method_43_code 4 = .ok (.ifCond .eq 38, 3) := by decide +kernel
theorem dd_Mo_mustNumber_7 : decode prog_13_method_43_code 7 = .ok (.aload_n 0, 1) := by decide +kernel
theorem dd_Mo_mustNumber_8 : decode prog_13_method_43_code 8 = .ok (.getfield 58, 3) := by decide +kernel
theorem dd_Mo_mustNumber_11 : decode prog_13_method_43_code 11 = .ok (.aload_n 0, 1) := by decide +kernel
theorem dd_Mo_mustNumber_12 : decode prog_13_method_43_code 12 = .ok (.getfield 182, 3) := by decide +kernel
theorem dd_Mo_mustNumber_15 : decode prog_13_method_43_code 15 = .ok (.iaload, 1) := by decide +kernel
theorem dd_Mo_mustNumber_16 : decode prog_13_method_43_code 16 = .ok (.bipush 50, 2) := by decide +kernel
theorem dd_Mo_mustNumber_18 : decode prog_13_method_43_code 18 = .ok (.if_icmp .ne 20, 3) := by decide +kernel
theorem dd_Mo_mustNumber_21 : decode prog_13_method_43_code 21 = .ok (.aload_n 0, 1) := by decide +kernel
theorem dd_Mo_mustNumber_22 : decode prog_13_method_43_code 22 = .ok (.getfield 61, 3) := by decide +kernel
theorem dd_Mo_mustNumber_25 : decode prog_13_method_43_code 25 = .ok (.aload_n 0, 1) := by decide +kernel
theorem dd_Mo_mustNumber_26 : decode prog_13_method_43_code 26 = .ok (.getfield 182, 3) := by decide +kernel
theorem dd_Mo_mustNumber_29 : decode prog_13_method_43_code 29 = .ok (.iaload, 1) := by decide +kernel
theorem dd_Mo_mustNumber_30 : decode prog_13_method_43_code 30 = .ok (.iload_n 1, 1) := by decide +kernel
theorem dd_Mo_mustNumber_31 : decode prog_13_method_43_code 31 = .ok (.iload_n 2, 1) := by decide +kernel
theorem dd_Mo_mustNumber_32 : decode prog_13_method_43_code 32 = .ok (.invokestatic 18, 3) := by decide +kernel
theorem dd_Mo_mustNumber_35 : decode prog_13_method_43_code 35 = .ok (.ifCond .ne 7, 3) := by decide +kernel
theorem dd_Mo_mustNumber_38 : decode prog_13_method_43_code 38 = .ok (.aload_n 0, 1) := by decide +kernel
theorem dd_Mo_mustNumber_39 : decode prog_13_method_43_code 39 = .ok (.invokevirtual 188, 3) := by decide +kernel
theorem dd_Mo_mustNumber_42 : decode prog_13_method_43_code 42 = .ok (.aload_n 0, 1) := by decide +kernel
theorem dd_Mo_mustNumber_43 : decode prog_13_method_43_code 43 = .ok (.invokevirtual 178, 3) := by decide +kernel
theorem dd_Mo_mustNumber_46 : decode prog_13_method_43_code 46 = .ok (.ifCond .eq 13, 3) := by decide +kernel
theorem dd_Mo_mustNumber_49 : decode prog_13_method_43_code 49 = .ok (.aload_n 0, 1) := by decide +kernel
theorem dd_Mo_mustNumber_50 : decode prog_13_method_43_code 50 = .ok (.dup, 1) := by decide +kernel
theorem dd_Mo_mustNumber_51 : decode prog_13_method_43_code 51 = .ok (.getfield 182, 3) := by decide +kernel
theorem dd_Mo_mustNumber_54 : decode prog_13_method_43_code 54 = .ok (.iconst 1, 1) := by decide +kernel
theorem dd_Mo_mustNumber_55 : decode prog_13_method_43_code 55 = .ok (.iadd, 1) := by decide +kernel
theorem dd_Mo_mustNumber_56 : decode prog_13_method_43_code 56 = .ok (.putfield 182, 3) := by decide +kernel
theorem dd_Mo_mustNumber_59 : decode prog_13_method_43_code 59 = .ok (.return_, 1) := by decide +kernel
def jx_Mo_mustNumber (p0 : Option Nat) (p1 : Int32) (p2 : Int32) : sf_M (Unit) :=
  sf_bnd (sf_rc 11 p0 (jx_Mo_fine p0)) fun x1 =>
  sf_bnd (α := (Unit)) (
  if x1 = 0 then (
  sf_ret ()
  ) else (
  sf_bnd (sf_gR 11 15 p0) fun x3 =>
  sf_bnd (sf_gI 11 19 p0) fun x4 =>
  sf_bnd (sf_aI 0 x3 x4) fun x5 =>
  sf_or (α := (Unit)) (β := (Unit)) (
  if x5 = (50 : Int32) then (
  sf_bnd (sf_gR 11 16 p0) fun x7 =>
  sf_bnd (sf_gI 11 19 p0) fun x8 =>
  sf_bnd (sf_aI 0 x7 x8) fun x9 =>
  sf_bnd (jx_Mo_lies x9 p1 p2) fun x10 =>
  if x10 = 0 then (
  sf_ret (.inr ())
  ) else (
  sf_ret (.inl ())
  )
  ) else (
  sf_ret (.inr ())
  )
  ) (fun v12 =>
  sf_bnd (sf_rc 11 p0 (jx_Mo_faults p0)) fun _ =>
  sf_ret ()
  )
  )
  ) (fun v14 =>
  sf_bnd (sf_rc 11 p0 (jx_Mo_fine p0)) fun x15 =>
  if x15 = 0 then (
  sf_ret ()
  ) else (
  sf_bnd (sf_gI 11 19 p0) fun x17 =>
  sf_bnd (sf_pI 11 19 p0 (x17 + (1 : Int32))) fun _ =>
  sf_ret ()
  )
  )
set_option maxRecDepth 20000 in
set_option maxHeartbeats 4000000 in
theorem ok_Mo_mustNumber (p0 : Option Nat) (p1 : Int32) (p2 : Int32) : sf_Ok ({ cls := "SplitFaresModel", name := "mustNumber", desc := "(II)V" } : Jvm.MethodName) prog_13_method_43_code 3 none 2 [sf_rv p0, .int p1, .int p2] (jx_Mo_mustNumber p0 p1 p2) (fun _ => none) := by
  refine sf_Ok.of (env := [some (sf_rv p0), some (.int p1), some (.int p2)]) (plainFor_of_name (by decide)) [false, false, false] (fun G => ⟨pk_r, pk_i, pk_i, trivial⟩) (Nat.le_of_ble_eq_true rfl) rfl (fun X => ?_)
  unfold jx_Mo_mustNumber
  refine fp_aload_n (i := 0) (r := p0) dd_Mo_mustNumber_0 rfl rfl (fr_pc (pc' := 1) rfl ?_)
  refine fr_callV (stk := []) (As := []) cl_11 (ok_Mo_fine p0) mt_Mo_fine rfl rfl sw_1359 sw_1361 sp_39 (by decide) (Nat.le_of_ble_eq_true rfl) dd_Mo_mustNumber_1 (fun x1 => fr_to (pc' := 4) (env' := [some (sf_rv p0), some (.int p1), some (.int p2)]) (stk' := [.int x1]) rfl rfl rfl ?_)
  refine fr_bnd (l1 := (fun (v14 : (Unit)) => sf_p 42 [some (sf_rv p0), some (.int p1), some (.int p2)] [])) ?_ (fun v14 => ?_)
  · refine fr_if_eq (tgt := 42) dd_Mo_mustNumber_4 rfl (fun _ => ?_) (fun _ => ?_)
    · exact fr_ret rfl
    · refine fr_pc (pc' := 7) rfl ?_
      refine fp_aload_n (i := 0) (r := p0) dd_Mo_mustNumber_7 rfl rfl (fr_pc (pc' := 8) rfl ?_)
      refine fr_gR cl_11 15 (by decide) rfl sw_1087 dd_Mo_mustNumber_8 (fun x3 => fr_pc (pc' := 11) rfl ?_)
      refine fp_aload_n (i := 0) (r := p0) dd_Mo_mustNumber_11 rfl rfl (fr_pc (pc' := 12) rfl ?_)
      refine fr_gI cl_11 19 (by decide) rfl sw_1091 dd_Mo_mustNumber_12 (fun x4 => fr_pc (pc' := 15) rfl ?_)
      refine fr_aI0 dd_Mo_mustNumber_15 (fun x5 => fr_pc (pc' := 16) rfl ?_)
      refine fp_bipush (v := (50 : Int32)) dd_Mo_mustNumber_16 (by decide) (fr_pc (pc' := 18) rfl ?_)
      refine fr_or (l1 := (fun (v12 : (Unit)) => sf_p 38 [some (sf_rv p0), some (.int p1), some (.int p2)] [])) ?_ (fun v12 => ?_)
      · refine fr_icmp_ne (tgt := 38) dd_Mo_mustNumber_18 rfl (fun _ => ?_) (fun _ => ?_)
        · refine fr_pc (pc' := 21) rfl ?_
          refine fp_aload_n (i := 0) (r := p0) dd_Mo_mustNumber_21 rfl rfl (fr_pc (pc' := 22) rfl ?_)
          refine fr_gR cl_11 16 (by decide) rfl sw_1088 dd_Mo_mustNumber_22 (fun x7 => fr_pc (pc' := 25) rfl ?_)
          refine fp_aload_n (i := 0) (r := p0) dd_Mo_mustNumber_25 rfl rfl (fr_pc (pc' := 26) rfl ?_)
          refine fr_gI cl_11 19 (by decide) rfl sw_1091 dd_Mo_mustNumber_26 (fun x8 => fr_pc (pc' := 29) rfl ?_)
          refine fr_aI0 dd_Mo_mustNumber_29 (fun x9 => fr_pc (pc' := 30) rfl ?_)
          refine fp_iload_n (i := 1) (x := p1) dd_Mo_mustNumber_30 rfl rfl (fr_pc (pc' := 31) rfl ?_)
          refine fp_iload_n (i := 2) (x := p2) dd_Mo_mustNumber_31 rfl rfl (fr_pc (pc' := 32) rfl ?_)
          refine fr_callS (stk := []) (ok_Mo_lies x9 p1 p2) mt_Mo_lies rfl rfl sw_1237 sw_1238 (by decide) (Nat.le_of_ble_eq_true rfl) dd_Mo_mustNumber_32 (fun x10 => fr_to (pc' := 35) (env' := [some (sf_rv p0), some (.int p1), some (.int p2)]) (stk' := [.int x10]) rfl rfl rfl ?_)
          refine fr_if_ne (tgt := 42) dd_Mo_mustNumber_35 rfl (fun _ => ?_) (fun _ => ?_)
          · refine fr_pc (pc' := 38) rfl ?_
            exact fr_ret rfl
          · exact fr_ret rfl
        · exact fr_ret rfl
      · refine fp_aload_n (i := 0) (r := p0) dd_Mo_mustNumber_38 rfl rfl (fr_pc (pc' := 39) rfl ?_)
        refine fr_callV (stk := []) (As := []) cl_11 (ok_Mo_faults p0) mt_Mo_faults rfl rfl sw_1378 sw_1380 sp_43 (by decide) (Nat.le_of_ble_eq_true rfl) dd_Mo_mustNumber_39 (fun u13 => fr_to (pc' := 42) (env' := [some (sf_rv p0), some (.int p1), some (.int p2)]) (stk' := []) rfl rfl rfl ?_)
        exact fr_ret rfl
  · refine fp_aload_n (i := 0) (r := p0) dd_Mo_mustNumber_42 rfl rfl (fr_pc (pc' := 43) rfl ?_)
    refine fr_callV (stk := []) (As := []) cl_11 (ok_Mo_fine p0) mt_Mo_fine rfl rfl sw_1359 sw_1361 sp_39 (by decide) (Nat.le_of_ble_eq_true rfl) dd_Mo_mustNumber_43 (fun x15 => fr_to (pc' := 46) (env' := [some (sf_rv p0), some (.int p1), some (.int p2)]) (stk' := [.int x15]) rfl rfl rfl ?_)
    refine fr_if_eq (tgt := 59) dd_Mo_mustNumber_46 rfl (fun _ => ?_) (fun _ => ?_)
    · exact fr_vret rfl rfl dd_Mo_mustNumber_59
    · refine fr_pc (pc' := 49) rfl ?_
      refine fp_aload_n (i := 0) (r := p0) dd_Mo_mustNumber_49 rfl rfl (fr_pc (pc' := 50) rfl ?_)
      refine fp_dup_r dd_Mo_mustNumber_50 (fr_pc (pc' := 51) rfl ?_)
      refine fr_gI cl_11 19 (by decide) rfl sw_1091 dd_Mo_mustNumber_51 (fun x17 => fr_pc (pc' := 54) rfl ?_)
      refine fp_iconst (v := (1 : Int32)) dd_Mo_mustNumber_54 (by decide) (fr_pc (pc' := 55) rfl ?_)
      refine fp_iadd dd_Mo_mustNumber_55 (fr_pc (pc' := 56) rfl ?_)
      refine fr_pI cl_11 19 (by decide) rfl sw_1091 rfl ⟨rfl, rfl⟩ dd_Mo_mustNumber_56 (fr_pc (pc' := 59) rfl ?_)
      exact fr_vret rfl rfl dd_Mo_mustNumber_59
theorem mt_Mo_readSum : sf_Mt ({ cls := "SplitFaresModel", name := "readSum", desc := "(I)V" } : Jvm.MethodName) prog_13_method_50_code 2 none 1 := ⟨sw_1366, sw_12, ⟨by decide, by decide, by decide +kernel⟩, by decide⟩
theorem dd_Mo_readSum_0 : decode prog_13_method_50_code 0 = .ok (.aload_n 0, 1) := by decide +kernel
theorem dd_Mo_readSum_1 : decode prog_13_method_50_code 1 = .ok (.iload_n 1, 1) := by decide +kernel
theorem dd_Mo_readSum_2 : decode prog_13_method_50_code 2 = .ok (.invokevirtual 228, 3) := by decide +kernel
theorem dd_Mo_readSum_5 : decode prog_13_method_50_code 5 = .ok (.aload_n 0, 1) := by decide +kernel
theorem dd_Mo_readSum_6 : decode prog_13_method_50_code 6 = .ok (.bipush 43, 2) := by decide +kernel
theorem dd_Mo_readSum_8 : decode prog_13_method_50_code 8 = .ok (.invokestatic 224, 3) := by decide +kernel
theorem dd_Mo_readSum_11 : decode prog_13_method_50_code 11 = .ok (.invokevirtual 185, 3) := by decide +kernel
theorem dd_Mo_readSum_14 : decode prog_13_method_50_code 14 = .ok (.ifCond .ne 15, 3) := by decide +kernel
theorem dd_Mo_readSum_17 : decode prog_13_method_50_code 17 = .ok (.aload_n 0, 1) := by decide +kernel
theorem dd_Mo_readSum_18 : decode prog_13_method_50_code 18 = .ok (.bipush 45, 2) := by decide +kernel
theorem dd_Mo_readSum_20 : decode prog_13_method_50_code 20 = .ok (.invokestatic 224, 3) := by decide +kernel
theorem dd_Mo_readSum_23 : decode prog_13_method_50_code 23 = .ok (.invokevirtual 185, 3) := by decide +kernel
theorem dd_Mo_readSum_26 : decode prog_13_method_50_code 26 = .ok (.ifCond .eq 11, 3) := by decide +kernel
theorem dd_Mo_readSum_37 : decode prog_13_method_50_code 37 = .ok (.return_, 1) := by decide +kernel
theorem dd_Mo_readSum_29 : decode prog_13_method_50_code 29 = .ok (.aload_n 0, 1) := by decide +kernel
theorem dd_Mo_readSum_30 : decode prog_13_method_50_code 30 = .ok (.iload_n 1, 1) := by decide +kernel
theorem dd_Mo_readSum_31 : decode prog_13_method_50_code 31 = .ok (.invokevirtual 228, 3) := by decide +kernel
theorem dd_Mo_readSum_34 : decode prog_13_method_50_code 34 = .ok (.goto (-29), 3) := by decide +kernel
theorem mt_Mo_readTerm : sf_Mt ({ cls := "SplitFaresModel", name := "readTerm", desc := "(I)V" } : Jvm.MethodName) prog_13_method_51_code 2 none 1 := ⟨sw_1370, sw_12, ⟨by decide, by decide, by decide +kernel⟩, by decide⟩
theorem dd_Mo_readTerm_0 : decode prog_13_method_51_code 0 = .ok (.aload_n 0, 1) := by decide +kernel
theorem dd_Mo_readTerm_1 : decode prog_13_method_51_code 1 = .ok (.iload_n 1, 1) := by decide +kernel
theorem dd_Mo_readTerm_2 : decode prog_13_method_51_code 2 = .ok (.invokevirtual 231, 3) := by decide +kernel
theorem dd_Mo_readTerm_5 : decode prog_13_method_51_code 5 = .ok (.aload_n 0, 1) := by decide +kernel
theorem dd_Mo_readTerm_6 : decode prog_13_method_51_code 6 = .ok (.bipush 42, 2) := by decide +kernel
theorem dd_Mo_readTerm_8 : decode prog_13_method_51_code 8 = .ok (.invokestatic 224, 3) := by decide +kernel
theorem dd_Mo_readTerm_11 : decode prog_13_method_51_code 11 = .ok (.invokevirtual 185, 3) := by decide +kernel
theorem dd_Mo_readTerm_14 : decode prog_13_method_51_code 14 = .ok (.ifCond .ne 27, 3) := by decide +kernel
theorem dd_Mo_readTerm_17 : decode prog_13_method_51_code 17 = .ok (.aload_n 0, 1) := by decide +kernel
theorem dd_Mo_readTerm_18 : decode prog_13_method_51_code 18 = .ok (.bipush 47, 2) := by decide +kernel
theorem dd_Mo_readTerm_20 : decode prog_13_method_51_code 20 = .ok (.invokestatic 224, 3) := by decide +kernel
theorem dd_Mo_readTerm_23 : decode prog_13_method_51_code 23 = .ok (.invokevirtual 185, 3) := by decide +kernel
theorem dd_Mo_readTerm_26 : decode prog_13_method_51_code 26 = .ok (.ifCond .ne 15, 3) := by decide +kernel
theorem dd_Mo_readTerm_29 : decode prog_13_method_51_code 29 = .ok (.aload_n 0, 1) := by decide +kernel
theorem dd_Mo_readTerm_30 : decode prog_13_method_51_code 30 = .ok (.bipush 37, 2) := by decide +kernel
theorem dd_Mo_readTerm_32 : decode prog_13_method_51_code 32 = .ok (.invokestatic 224, 3) := by decide +kernel
theorem dd_Mo_readTerm_35 : decode prog_13_method_51_code 35 = .ok (.invokevirtual 185, 3) := by decide +kernel
theorem dd_Mo_readTerm_38 : decode prog_13_method_51_code 38 = .ok (.ifCond .eq 11, 3) := by decide +kernel
theorem dd_Mo_readTerm_49 : decode prog_13_method_51_code 49 = .ok (.return_, 1) := by decide +kernel
theorem dd_Mo_readTerm_41 : decode prog_13_method_51_code 41 = .ok (.aload_n 0, 1) := by decide +kernel
theorem dd_Mo_readTerm_42 : decode prog_13_method_51_code 42 = .ok (.iload_n 1, 1) := by decide +kernel
theorem dd_Mo_readTerm_43 : decode prog_13_method_51_code 43 = .ok (.invokevirtual 231, 3) := by decide +kernel
theorem dd_Mo_readTerm_46 : decode prog_13_method_51_code 46 = .ok (.goto (-41), 3) := by decide +kernel
theorem mt_Mo_readPart : sf_Mt ({ cls := "SplitFaresModel", name := "readPart", desc := "(I)V" } : Jvm.MethodName) prog_13_method_52_code 3 none 1 := ⟨sw_1374, sw_12, ⟨by decide, by decide, by decide +kernel⟩, by decide⟩
theorem dd_Mo_readPart_0 : decode prog_13_method_52_code 0 = .ok (.aload_n 0, 1) := by decide +kernel
theorem dd_Mo_readPart_1 : decode prog_13_method_52_code 1 = .ok (.invokevirtual 178, 3) := by decide +kernel
theorem dd_Mo_readPart_4 : decode prog_13_method_52_code 4 = .ok (.ifCond .ne 4, 3) := by decide +kernel
theorem dd_Mo_readPart_7 : decode prog_13_method_52_code 7 = .ok (.return_, 1) := by decide +kernel
theorem dd_Mo_readPart_8 : decode prog_13_method_52_code 8 = .ok (.aload_n 0, 1) := by decide +kernel
theorem dd_Mo_readPart_9 : decode prog_13_method_52_code 9 = .ok (.getfield 58, 3) := by decide +kernel
theorem dd_Mo_readPart_12 : decode prog_13_method_52_code 12 = .ok (.aload_n 0, 1) := by decide +kernel
theorem dd_Mo_readPart_13 : decode prog_13_method_52_code 13 = .ok (.getfield 182, 3) := by decide +kernel
theorem dd_Mo_readPart_16 : decode prog_13_method_52_code 16 = .ok (.iaload, 1) := by decide +kernel
theorem dd_Mo_readPart_17 : decode prog_13_method_52_code 17 = .ok (.istore_n 2, 1) := by decide +kernel
theorem dd_Mo_readPart_18 : decode prog_13_method_52_code 18 = .ok (.iload_n 2, 1) := by decide +kernel
theorem dd_Mo_readPart_19 : decode prog_13_method_52_code 19 = .ok (.bipush 91, 2) := by decide +kernel
theorem dd_Mo_readPart_21 : decode prog_13_method_52_code 21 = .ok (.invokestatic 224, 3) := by decide +kernel
theorem dd_Mo_readPart_24 : decode prog_13_method_52_code 24 = .ok (.if_icmp .ne 50, 3) := by decide +kernel
theorem dd_Mo_readPart_27 : decode prog_13_method_52_code 27 = .ok (.iload_n 1, 1) := by decide +kernel
theorem dd_Mo_readPart_28 : decode prog_13_method_52_code 28 = .ok (.bipush 8, 2) := by decide +kernel
theorem dd_Mo_readPart_30 : decode prog_13_method_52_code 30 = .ok (.if_icmp .ne 7, 3) := by decide +kernel
theorem dd_Mo_readPart_33 : decode prog_13_method_52_code 33 = .ok (.aload_n 0, 1) := by decide +kernel
theorem dd_Mo_readPart_34 : decode prog_13_method_52_code 34 = .ok (.invokevirtual 188, 3) := by decide +kernel
theorem dd_Mo_readPart_37 : decode prog_13_method_52_code 37 = .ok (.aload_n 0, 1) := by decide +kernel
theorem dd_Mo_readPart_38 : decode prog_13_method_52_code 38 = .ok (.invokevirtual 178, 3) := by decide +kernel
theorem dd_Mo_readPart_41 : decode prog_13_method_52_code 41 = .ok (.ifCond .ne 4, 3) := by decide +kernel
theorem dd_Mo_readPart_44 : decode prog_13_method_52_code 44 = .ok (.return_, 1) := by decide +kernel
theorem dd_Mo_readPart_45 : decode prog_13_method_52_code 45 = .ok (.aload_n 0, 1) := by decide +kernel
theorem dd_Mo_readPart_46 : decode prog_13_method_52_code 46 = .ok (.dup, 1) := by decide +kernel
theorem dd_Mo_readPart_47 : decode prog_13_method_52_code 47 = .ok (.getfield 182, 3) := by decide +kernel
theorem dd_Mo_readPart_50 : decode prog_13_method_52_code 50 = .ok (.iconst 1, 1) := by decide +kernel
theorem dd_Mo_readPart_51 : decode prog_13_method_52_code 51 = .ok (.iadd, 1) := by decide +kernel
theorem dd_Mo_readPart_52 : decode prog_13_method_52_code 52 = .ok (.putfield 182, 3) := by decide +kernel
theorem dd_Mo_readPart_55 : decode prog_13_method_52_code 55 = .ok (.aload_n 0, 1) := by decide +kernel
theorem dd_Mo_readPart_56 : decode prog_13_method_52_code 56 = .ok (.iload_n 1, 1) := by decide +kernel
theorem dd_Mo_readPart_57 : decode prog_13_method_52_code 57 = .ok (.iconst 1, 1) := by decide +kernel
theorem dd_Mo_readPart_58 : decode prog_13_method_52_code 58 = .ok (.iadd, 1) := by decide +kernel
theorem dd_Mo_readPart_59 : decode prog_13_method_52_code 59 = .ok (.invokevirtual 194, 3) := by decide +kernel
theorem dd_Mo_readPart_62 : decode prog_13_method_52_code 62 = .ok (.aload_n 0, 1) := by decide +kernel
theorem dd_Mo_readPart_63 : decode prog_13_method_52_code 63 = .ok (.bipush 93, 2) := by decide +kernel
theorem dd_Mo_readPart_65 : decode prog_13_method_52_code 65 = .ok (.invokestatic 224, 3) := by decide +kernel
theorem dd_Mo_readPart_68 : decode prog_13_method_52_code 68 = .ok (.invokevirtual 198, 3) := by decide +kernel
theorem dd_Mo_readPart_71 : decode prog_13_method_52_code 71 = .ok (.goto 70, 3) := by decide +kernel
theorem dd_Mo_readPart_74 : decode prog_13_method_52_code 74 = .ok (.iload_n 2, 1) := by decide +kernel
theorem dd_Mo_readPart_75 : decode prog_13_method_52_code 75 = .ok (.bipush 50, 2) := by decide +kernel
theorem dd_Mo_readPart_77 : decode prog_13_method_52_code 77 = .ok (.if_icmp .ne 18, 3) := by decide +kernel
theorem dd_Mo_readPart_80 : decode prog_13_method_52_code 80 = .ok (.aload_n 0, 1) := by decide +kernel
theorem dd_Mo_readPart_81 : decode prog_13_method_52_code 81 = .ok (.getfield 61, 3) := by decide +kernel
theorem dd_Mo_readPart_84 : decode prog_13_method_52_code 84 = .ok (.aload_n 0, 1) := by decide +kernel
theorem dd_Mo_readPart_85 : decode prog_13_method_52_code 85 = .ok (.getfield 182, 3) := by decide +kernel
theorem dd_Mo_readPart_88 : decode prog_13_method_52_code 88 = .ok (.iaload, 1) := by decide +kernel
theorem dd_Mo_readPart_89 : decode prog_13_method_52_code 89 = .ok (.sipush 1000, 3) := by decide +kernel
theorem dd_Mo_readPart_92 : decode prog_13_method_52_code 92 = .ok (.if_icmp .le 19, 3) := by decide +kernel
theorem dd_Mo_readPart_95 : decode prog_13_method_52_code 95 = .ok (.iload_n 2, 1) := by decide +kernel
theorem dd_Mo_readPart_96 : decode prog_13_method_52_code 96 = .ok (.aload_n 0, 1) := by decide +kernel
theorem dd_Mo_readPart_97 : decode prog_13_method_52_code 97 = .ok (.getfield 234, 3) := by decide +kernel
theorem dd_Mo_readPart_100 : decode prog_13_method_52_code 100 = .ok (.if_icmp .lt 37, 3) := by decide +kernel
theorem dd_Mo_readPart_103 : decode prog_13_method_52_code 103 = .ok (.iload_n 2, 1) := by decide +kernel
theorem dd_Mo_readPart_104 : decode prog_13_method_52_code 104 = .ok (.aload_n 0, 1) := by decide +kernel
theorem dd_Mo_readPart_105 : decode prog_13_method_52_code 105 = .ok (.getfield 237, 3) := by decide +kernel
theorem dd_Mo_readPart_108 : decode prog_13_method_52_code 108 = .ok (.if_icmp .gt 29, 3) := by decide +kernel
theorem dd_Mo_readPart_111 : decode prog_13_method_52_code 111 = .ok (.aload_n 0, 1) := by decide +kernel
theorem dd_Mo_readPart_112 : decode prog_13_method_52_code 112 = .ok (.invokevirtual 240, 3) := by decide +kernel
theorem dd_Mo_readPart_115 : decode prog_13_method_52_code 115 = .ok (.aload_n 0, 1) := by decide +kernel
theorem dd_Mo_readPart_116 : decode prog_13_method_52_code 116 = .ok (.getfield 208, 3) := by decide +kernel
theorem dd_Mo_readPart_119 : decode prog_13_method_52_code 119 = .ok (.ifCond .eq 22, 3) := by decide +kernel
theorem dd_Mo_readPart_122 : decode prog_13_method_52_code 122 = .ok (.iload_n 2, 1) := by decide +kernel
theorem dd_Mo_readPart_123 : decode prog_13_method_52_code 123 = .ok (.bipush 19, 2) := by decide +kernel
theorem dd_Mo_readPart_125 : decode prog_13_method_52_code 125 = .ok (.if_icmp .ne 16, 3) := by decide +kernel
theorem dd_Mo_readPart_128 : decode prog_13_method_52_code 128 = .ok (.aload_n 0, 1) := by decide +kernel
theorem dd_Mo_readPart_129 : decode prog_13_method_52_code 129 = .ok (.iconst 0, 1) := by decide +kernel
theorem dd_Mo_readPart_130 : decode prog_13_method_52_code 130 = .ok (.iconst 5, 1) := by decide +kernel
theorem dd_Mo_readPart_131 : decode prog_13_method_52_code 131 = .ok (.invokevirtual 204, 3) := by decide +kernel
theorem dd_Mo_readPart_134 : decode prog_13_method_52_code 134 = .ok (.goto 7, 3) := by decide +kernel
theorem dd_Mo_readPart_137 : decode prog_13_method_52_code 137 = .ok (.aload_n 0, 1) := by decide +kernel
theorem dd_Mo_readPart_138 : decode prog_13_method_52_code 138 = .ok (.invokevirtual 188, 3) := by decide +kernel
theorem dd_Mo_readPart_141 : decode prog_13_method_52_code 141 = .ok (.return_, 1) := by decide +kernel
def jb_Mo_readSum (R : Nat → Option Nat → Int32 → sf_M (Unit)) (p0 : Option Nat) (p1 : Int32) : sf_M (Unit) :=
  sf_bnd (sf_rc 11 p0 (R 1 p0 p1)) fun _ =>
  sf_bnd (sf_loop (β := (Unit)) (γ := (Unit)) (fun b2 =>
  sf_bnd (jx_Mo_sign (43 : Int32)) fun x3 =>
  sf_bnd (sf_rc 11 p0 (jx_Mo_takes0 p0 x3)) fun x4 =>
  sf_or (α := ((Unit) ⊕ (Unit))) (β := (Unit)) (
  if x4 = 0 then (
  sf_bnd (jx_Mo_sign (45 : Int32)) fun x6 =>
  sf_bnd (sf_rc 11 p0 (jx_Mo_takes0 p0 x6)) fun x7 =>
  if x7 = 0 then (
  sf_ret (.inl (.inr ()))
  ) else (
  sf_ret (.inr ())
  )
  ) else (
  sf_ret (.inr ())
  )
  ) (fun v9 =>
  sf_bnd (sf_rc 11 p0 (R 1 p0 p1)) fun _ =>
  sf_ret (.inl ())
  )
  ) sf_fuel ()) (fun e11 =>
  sf_ret ()
  )
set_option maxRecDepth 20000 in
set_option maxHeartbeats 4000000 in
theorem okb_Mo_readSum (n : Nat) (R : Nat → Option Nat → Int32 → sf_M (Unit)) (hR_Mo_readTerm : ∀ (a0 : Option Nat) (a1 : Int32), sf_Ok ({ cls := "SplitFaresModel", name := "readTerm", desc := "(I)V" } : Jvm.MethodName) prog_13_method_51_code 2 none (3 + n) [sf_rv a0, .int a1] (R 1 a0 a1) (fun _ => none)) (p0 : Option Nat) (p1 : Int32) : sf_Ok ({ cls := "SplitFaresModel", name := "readSum", desc := "(I)V" } : Jvm.MethodName) prog_13_method_50_code 2 none (3 + n + 1) [sf_rv p0, .int p1] (jb_Mo_readSum R p0 p1) (fun _ => none) := by
  refine sf_Ok.of (env := [some (sf_rv p0), some (.int p1)]) (plainFor_of_name (by decide)) [false, false] (fun G => ⟨pk_r, pk_i, trivial⟩) (Nat.le_of_ble_eq_true rfl) rfl (fun X => ?_)
  unfold jb_Mo_readSum
  refine fp_aload_n (i := 0) (r := p0) dd_Mo_readSum_0 rfl rfl (fr_pc (pc' := 1) rfl ?_)
  refine fp_iload_n (i := 1) (x := p1) dd_Mo_readSum_1 rfl rfl (fr_pc (pc' := 2) rfl ?_)
  refine fr_callV (stk := []) (As := [.int p1]) cl_11 (hR_Mo_readTerm p0 p1) mt_Mo_readTerm rfl rfl sw_1367 sw_1369 sp_41 (by dsimp only [sf_deep]; omega) (Nat.le_of_ble_eq_true rfl) dd_Mo_readSum_2 (fun u1 => fr_to (pc' := 5) (env' := [some (sf_rv p0), some (.int p1)]) (stk' := []) rfl rfl rfl ?_)
  refine fr_to (pc' := 5) (env' := [some (sf_rv p0), some (.int p1)]) (stk' := []) rfl rfl rfl ?_
  refine fr_bnd (l1 := (fun (e11 : (Unit)) => sf_p 37 [some (sf_rv p0), some (.int p1)] [])) (fr_loop (Lb := (fun (b2 : (Unit)) => sf_p 5 [some (sf_rv p0), some (.int p1)] [])) (fun b2 => ?_) _ _) (fun e11 => ?_)
  · refine fp_aload_n (i := 0) (r := p0) dd_Mo_readSum_5 rfl rfl (fr_pc (pc' := 6) rfl ?_)
    refine fp_bipush (v := (43 : Int32)) dd_Mo_readSum_6 (by decide) (fr_pc (pc' := 8) rfl ?_)
    refine fr_callS (stk := [sf_rv p0]) (ok_Mo_sign (43 : Int32)) mt_Mo_sign rfl rfl sw_1375 sw_1376 (by dsimp only [sf_deep]; omega) (Nat.le_of_ble_eq_true rfl) dd_Mo_readSum_8 (fun x3 => fr_to (pc' := 11) (env' := [some (sf_rv p0), some (.int p1)]) (stk' := [.int x3, sf_rv p0]) rfl rfl rfl ?_)
    refine fr_callV (stk := []) (As := [.int x3]) cl_11 (ok_Mo_takes0 p0 x3) mt_Mo_takes0 rfl rfl sw_1355 sw_1357 sp_38 (by dsimp only [sf_deep]; omega) (Nat.le_of_ble_eq_true rfl) dd_Mo_readSum_11 (fun x4 => fr_to (pc' := 14) (env' := [some (sf_rv p0), some (.int p1)]) (stk' := [.int x4]) rfl rfl rfl ?_)
    refine fr_or (l1 := (fun (v9 : (Unit)) => sf_p 29 [some (sf_rv p0), some (.int p1)] [])) ?_ (fun v9 => ?_)
    · refine fr_if_ne (tgt := 29) dd_Mo_readSum_14 rfl (fun _ => ?_) (fun _ => ?_)
      · refine fr_pc (pc' := 17) rfl ?_
        refine fp_aload_n (i := 0) (r := p0) dd_Mo_readSum_17 rfl rfl (fr_pc (pc' := 18) rfl ?_)
        refine fp_bipush (v := (45 : Int32)) dd_Mo_readSum_18 (by decide) (fr_pc (pc' := 20) rfl ?_)
        refine fr_callS (stk := [sf_rv p0]) (ok_Mo_sign (45 : Int32)) mt_Mo_sign rfl rfl sw_1375 sw_1376 (by dsimp only [sf_deep]; omega) (Nat.le_of_ble_eq_true rfl) dd_Mo_readSum_20 (fun x6 => fr_to (pc' := 23) (env' := [some (sf_rv p0), some (.int p1)]) (stk' := [.int x6, sf_rv p0]) rfl rfl rfl ?_)
        refine fr_callV (stk := []) (As := [.int x6]) cl_11 (ok_Mo_takes0 p0 x6) mt_Mo_takes0 rfl rfl sw_1355 sw_1357 sp_38 (by dsimp only [sf_deep]; omega) (Nat.le_of_ble_eq_true rfl) dd_Mo_readSum_23 (fun x7 => fr_to (pc' := 26) (env' := [some (sf_rv p0), some (.int p1)]) (stk' := [.int x7]) rfl rfl rfl ?_)
        refine fr_if_eq (tgt := 37) dd_Mo_readSum_26 rfl (fun _ => ?_) (fun _ => ?_)
        · exact fr_ret rfl
        · refine fr_pc (pc' := 29) rfl ?_
          exact fr_ret rfl
      · exact fr_ret rfl
    · refine fp_aload_n (i := 0) (r := p0) dd_Mo_readSum_29 rfl rfl (fr_pc (pc' := 30) rfl ?_)
      refine fp_iload_n (i := 1) (x := p1) dd_Mo_readSum_30 rfl rfl (fr_pc (pc' := 31) rfl ?_)
      refine fr_callV (stk := []) (As := [.int p1]) cl_11 (hR_Mo_readTerm p0 p1) mt_Mo_readTerm rfl rfl sw_1367 sw_1369 sp_41 (by dsimp only [sf_deep]; omega) (Nat.le_of_ble_eq_true rfl) dd_Mo_readSum_31 (fun u10 => fr_to (pc' := 34) (env' := [some (sf_rv p0), some (.int p1)]) (stk' := []) rfl rfl rfl ?_)
      refine fp_goto (tgt := 5) dd_Mo_readSum_34 rfl ?_
      exact fr_ret rfl
  · exact fr_vret rfl rfl dd_Mo_readSum_37
def jb_Mo_readTerm (R : Nat → Option Nat → Int32 → sf_M (Unit)) (p0 : Option Nat) (p1 : Int32) : sf_M (Unit) :=
  sf_bnd (sf_rc 11 p0 (R 2 p0 p1)) fun _ =>
  sf_bnd (sf_loop (β := (Unit)) (γ := (Unit)) (fun b2 =>
  sf_bnd (jx_Mo_sign (42 : Int32)) fun x3 =>
  sf_bnd (sf_rc 11 p0 (jx_Mo_takes0 p0 x3)) fun x4 =>
  sf_or (α := ((Unit) ⊕ (Unit))) (β := (Unit)) (
  if x4 = 0 then (
  sf_bnd (jx_Mo_sign (47 : Int32)) fun x6 =>
  sf_bnd (sf_rc 11 p0 (jx_Mo_takes0 p0 x6)) fun x7 =>
  if x7 = 0 then (
  sf_bnd (jx_Mo_sign (37 : Int32)) fun x9 =>
  sf_bnd (sf_rc 11 p0 (jx_Mo_takes0 p0 x9)) fun x10 =>
  if x10 = 0 then (
  sf_ret (.inl (.inr ()))
  ) else (
  sf_ret (.inr ())
  )
  ) else (
  sf_ret (.inr ())
  )
  ) else (
  sf_ret (.inr ())
  )
  ) (fun v12 =>
  sf_bnd (sf_rc 11 p0 (R 2 p0 p1)) fun _ =>
  sf_ret (.inl ())
  )
  ) sf_fuel ()) (fun e14 =>
  sf_ret ()
  )
set_option maxRecDepth 20000 in
set_option maxHeartbeats 4000000 in
theorem okb_Mo_readTerm (n : Nat) (R : Nat → Option Nat → Int32 → sf_M (Unit)) (hR_Mo_readPart : ∀ (a0 : Option Nat) (a1 : Int32), sf_Ok ({ cls := "SplitFaresModel", name := "readPart", desc := "(I)V" } : Jvm.MethodName) prog_13_method_52_code 3 none (3 + n) [sf_rv a0, .int a1] (R 2 a0 a1) (fun _ => none)) (p0 : Option Nat) (p1 : Int32) : sf_Ok ({ cls := "SplitFaresModel", name := "readTerm", desc := "(I)V" } : Jvm.MethodName) prog_13_method_51_code 2 none (3 + n + 1) [sf_rv p0, .int p1] (jb_Mo_readTerm R p0 p1) (fun _ => none) := by
  refine sf_Ok.of (env := [some (sf_rv p0), some (.int p1)]) (plainFor_of_name (by decide)) [false, false] (fun G => ⟨pk_r, pk_i, trivial⟩) (Nat.le_of_ble_eq_true rfl) rfl (fun X => ?_)
  unfold jb_Mo_readTerm
  refine fp_aload_n (i := 0) (r := p0) dd_Mo_readTerm_0 rfl rfl (fr_pc (pc' := 1) rfl ?_)
  refine fp_iload_n (i := 1) (x := p1) dd_Mo_readTerm_1 rfl rfl (fr_pc (pc' := 2) rfl ?_)
  refine fr_callV (stk := []) (As := [.int p1]) cl_11 (hR_Mo_readPart p0 p1) mt_Mo_readPart rfl rfl sw_1371 sw_1373 sp_42 (by dsimp only [sf_deep]; omega) (Nat.le_of_ble_eq_true rfl) dd_Mo_readTerm_2 (fun u1 => fr_to (pc' := 5) (env' := [some (sf_rv p0), some (.int p1)]) (stk' := []) rfl rfl rfl ?_)
  refine fr_to (pc' := 5) (env' := [some (sf_rv p0), some (.int p1)]) (stk' := []) rfl rfl rfl ?_
  refine fr_bnd (l1 := (fun (e14 : (Unit)) => sf_p 49 [some (sf_rv p0), some (.int p1)] [])) (fr_loop (Lb := (fun (b2 : (Unit)) => sf_p 5 [some (sf_rv p0), some (.int p1)] [])) (fun b2 => ?_) _ _) (fun e14 => ?_)
  · refine fp_aload_n (i := 0) (r := p0) dd_Mo_readTerm_5 rfl rfl (fr_pc (pc' := 6) rfl ?_)
    refine fp_bipush (v := (42 : Int32)) dd_Mo_readTerm_6 (by decide) (fr_pc (pc' := 8) rfl ?_)
    refine fr_callS (stk := [sf_rv p0]) (ok_Mo_sign (42 : Int32)) mt_Mo_sign rfl rfl sw_1375 sw_1376 (by dsimp only [sf_deep]; omega) (Nat.le_of_ble_eq_true rfl) dd_Mo_readTerm_8 (fun x3 => fr_to (pc' := 11) (env' := [some (sf_rv p0), some (.int p1)]) (stk' := [.int x3, sf_rv p0]) rfl rfl rfl ?_)
    refine fr_callV (stk := []) (As := [.int x3]) cl_11 (ok_Mo_takes0 p0 x3) mt_Mo_takes0 rfl rfl sw_1355 sw_1357 sp_38 (by dsimp only [sf_deep]; omega) (Nat.le_of_ble_eq_true rfl) dd_Mo_readTerm_11 (fun x4 => fr_to (pc' := 14) (env' := [some (sf_rv p0), some (.int p1)]) (stk' := [.int x4]) rfl rfl rfl ?_)
    refine fr_or (l1 := (fun (v12 : (Unit)) => sf_p 41 [some (sf_rv p0), some (.int p1)] [])) ?_ (fun v12 => ?_)
    · refine fr_if_ne (tgt := 41) dd_Mo_readTerm_14 rfl (fun _ => ?_) (fun _ => ?_)
      · refine fr_pc (pc' := 17) rfl ?_
        refine fp_aload_n (i := 0) (r := p0) dd_Mo_readTerm_17 rfl rfl (fr_pc (pc' := 18) rfl ?_)
        refine fp_bipush (v := (47 : Int32)) dd_Mo_readTerm_18 (by decide) (fr_pc (pc' := 20) rfl ?_)
        refine fr_callS (stk := [sf_rv p0]) (ok_Mo_sign (47 : Int32)) mt_Mo_sign rfl rfl sw_1375 sw_1376 (by dsimp only [sf_deep]; omega) (Nat.le_of_ble_eq_true rfl) dd_Mo_readTerm_20 (fun x6 => fr_to (pc' := 23) (env' := [some (sf_rv p0), some (.int p1)]) (stk' := [.int x6, sf_rv p0]) rfl rfl rfl ?_)
        refine fr_callV (stk := []) (As := [.int x6]) cl_11 (ok_Mo_takes0 p0 x6) mt_Mo_takes0 rfl rfl sw_1355 sw_1357 sp_38 (by dsimp only [sf_deep]; omega) (Nat.le_of_ble_eq_true rfl) dd_Mo_readTerm_23 (fun x7 => fr_to (pc' := 26) (env' := [some (sf_rv p0), some (.int p1)]) (stk' := [.int x7]) rfl rfl rfl ?_)
        refine fr_if_ne (tgt := 41) dd_Mo_readTerm_26 rfl (fun _ => ?_) (fun _ => ?_)
        · refine fr_pc (pc' := 29) rfl ?_
          refine fp_aload_n (i := 0) (r := p0) dd_Mo_readTerm_29 rfl rfl (fr_pc (pc' := 30) rfl ?_)
          refine fp_bipush (v := (37 : Int32)) dd_Mo_readTerm_30 (by decide) (fr_pc (pc' := 32) rfl ?_)
          refine fr_callS (stk := [sf_rv p0]) (ok_Mo_sign (37 : Int32)) mt_Mo_sign rfl rfl sw_1375 sw_1376 (by dsimp only [sf_deep]; omega) (Nat.le_of_ble_eq_true rfl) dd_Mo_readTerm_32 (fun x9 => fr_to (pc' := 35) (env' := [some (sf_rv p0), some (.int p1)]) (stk' := [.int x9, sf_rv p0]) rfl rfl rfl ?_)
          refine fr_callV (stk := []) (As := [.int x9]) cl_11 (ok_Mo_takes0 p0 x9) mt_Mo_takes0 rfl rfl sw_1355 sw_1357 sp_38 (by dsimp only [sf_deep]; omega) (Nat.le_of_ble_eq_true rfl) dd_Mo_readTerm_35 (fun x10 => fr_to (pc' := 38) (env' := [some (sf_rv p0), some (.int p1)]) (stk' := [.int x10]) rfl rfl rfl ?_)
          refine fr_if_eq (tgt := 49) dd_Mo_readTerm_38 rfl (fun _ => ?_) (fun _ => ?_)
          · exact fr_ret rfl
          · refine fr_pc (pc' := 41) rfl ?_
            exact fr_ret rfl
        · exact fr_ret rfl
      · exact fr_ret rfl
    · refine fp_aload_n (i := 0) (r := p0) dd_Mo_readTerm_41 rfl rfl (fr_pc (pc' := 42) rfl ?_)
      refine fp_iload_n (i := 1) (x := p1) dd_Mo_readTerm_42 rfl rfl (fr_pc (pc' := 43) rfl ?_)
      refine fr_callV (stk := []) (As := [.int p1]) cl_11 (hR_Mo_readPart p0 p1) mt_Mo_readPart rfl rfl sw_1371 sw_1373 sp_42 (by dsimp only [sf_deep]; omega) (Nat.le_of_ble_eq_true rfl) dd_Mo_readTerm_43 (fun u13 => fr_to (pc' := 46) (env' := [some (sf_rv p0), some (.int p1)]) (stk' := []) rfl rfl rfl ?_)
      refine fp_goto (tgt := 5) dd_Mo_readTerm_46 rfl ?_
      exact fr_ret rfl
  · exact fr_vret rfl rfl dd_Mo_readTerm_49
def jb_Mo_readPart (R : Nat → Option Nat → Int32 → sf_M (Unit)) (p0 : Option Nat) (p1 : Int32) : sf_M (Unit) :=
  sf_bnd (sf_rc 11 p0 (jx_Mo_fine p0)) fun x1 =>
  if x1 = 0 then (
  sf_ret ()
  ) else (
  sf_bnd (sf_gR 11 15 p0) fun x3 =>
  sf_bnd (sf_gI 11 19 p0) fun x4 =>
  sf_bnd (sf_aI 0 x3 x4) fun x5 =>
  sf_bnd (jx_Mo_sign (91 : Int32)) fun x6 =>
  if x5 = x6 then (
  sf_bnd (α := (Unit)) (
  if p1 = (8 : Int32) then (
  sf_bnd (sf_rc 11 p0 (jx_Mo_faults p0)) fun _ =>
  sf_ret ()
  ) else (
  sf_ret ()
  )
  ) (fun v10 =>
  sf_bnd (sf_rc 11 p0 (jx_Mo_fine p0)) fun x11 =>
  if x11 = 0 then (
  sf_ret ()
  ) else (
  sf_bnd (sf_gI 11 19 p0) fun x13 =>
  sf_bnd (sf_pI 11 19 p0 (x13 + (1 : Int32))) fun _ =>
  sf_bnd (sf_rc 11 p0 (R 0 p0 (p1 + (1 : Int32)))) fun _ =>
  sf_bnd (jx_Mo_sign (93 : Int32)) fun x15 =>
  sf_bnd (sf_rc 11 p0 (jx_Mo_must p0 x15)) fun _ =>
  sf_ret ()
  )
  )
  ) else (
  sf_or (α := Unit) (β := (Unit)) (
  sf_or (α := (Unit ⊕ (Unit))) (β := (Unit)) (
  if x5 = (50 : Int32) then (
  sf_bnd (sf_gR 11 16 p0) fun x18 =>
  sf_bnd (sf_gI 11 19 p0) fun x19 =>
  sf_bnd (sf_aI 0 x18 x19) fun x20 =>
  if x20 ≤ (1000 : Int32) then (
  sf_ret (.inl (.inr ()))
  ) else (
  sf_ret (.inr ())
  )
  ) else (
  sf_ret (.inr ())
  )
  ) (fun v22 =>
  sf_bnd (sf_gI 11 8 p0) fun x23 =>
  sf_or (α := (Unit ⊕ (Unit))) (β := (Unit)) (
  if x5 < x23 then (
  sf_ret (.inr ())
  ) else (
  sf_bnd (sf_gI 11 9 p0) fun x25 =>
  if x25 < x5 then (
  sf_ret (.inr ())
  ) else (
  sf_ret (.inl (.inr ()))
  )
  )
  ) (fun v27 =>
  sf_bnd (sf_rc 11 p0 (jx_Mo_faults p0)) fun _ =>
  sf_ret (.inl ())
  )
  )
  ) (fun v29 =>
  sf_bnd (sf_rc 11 p0 (jx_Mo_leaf p0)) fun _ =>
  sf_bnd (sf_gI 11 10 p0) fun x31 =>
  if x31 = 0 then (
  sf_ret ()
  ) else (
  if x5 = (19 : Int32) then (
  sf_bnd (sf_rc 11 p0 (jx_Mo_mustNumber p0 (0 : Int32) (5 : Int32))) fun _ =>
  sf_ret ()
  ) else (
  sf_ret ()
  )
  )
  )
  )
  )
set_option maxRecDepth 20000 in
set_option maxHeartbeats 4000000 in
theorem okb_Mo_readPart (n : Nat) (R : Nat → Option Nat → Int32 → sf_M (Unit)) (hR_Mo_readSum : ∀ (a0 : Option Nat) (a1 : Int32), sf_Ok ({ cls := "SplitFaresModel", name := "readSum", desc := "(I)V" } : Jvm.MethodName) prog_13_method_50_code 2 none (3 + n) [sf_rv a0, .int a1] (R 0 a0 a1) (fun _ => none)) (p0 : Option Nat) (p1 : Int32) : sf_Ok ({ cls := "SplitFaresModel", name := "readPart", desc := "(I)V" } : Jvm.MethodName) prog_13_method_52_code 3 none (3 + n + 1) [sf_rv p0, .int p1] (jb_Mo_readPart R p0 p1) (fun _ => none) := by
  refine sf_Ok.of (env := [some (sf_rv p0), some (.int p1), none]) (plainFor_of_name (by decide)) [false, false] (fun G => ⟨pk_r, pk_i, trivial⟩) (Nat.le_of_ble_eq_true rfl) rfl (fun X => ?_)
  unfold jb_Mo_readPart
  refine fp_aload_n (i := 0) (r := p0) dd_Mo_readPart_0 rfl rfl (fr_pc (pc' := 1) rfl ?_)
  refine fr_callV (stk := []) (As := []) cl_11 (ok_Mo_fine p0) mt_Mo_fine rfl rfl sw_1359 sw_1361 sp_39 (by dsimp only [sf_deep]; omega) (Nat.le_of_ble_eq_true rfl) dd_Mo_readPart_1 (fun x1 => fr_to (pc' := 4) (env' := [some (sf_rv p0), some (.int p1), none]) (stk' := [.int x1]) rfl rfl rfl ?_)
  refine fr_if_ne (tgt := 8) dd_Mo_readPart_4 rfl (fun _ => ?_) (fun _ => ?_)
  · refine fr_pc (pc' := 7) rfl ?_
    exact fr_vret rfl rfl dd_Mo_readPart_7
  · refine fp_aload_n (i := 0) (r := p0) dd_Mo_readPart_8 rfl rfl (fr_pc (pc' := 9) rfl ?_)
    refine fr_gR cl_11 15 (by decide) rfl sw_1087 dd_Mo_readPart_9 (fun x3 => fr_pc (pc' := 12) rfl ?_)
    refine fp_aload_n (i := 0) (r := p0) dd_Mo_readPart_12 rfl rfl (fr_pc (pc' := 13) rfl ?_)
    refine fr_gI cl_11 19 (by decide) rfl sw_1091 dd_Mo_readPart_13 (fun x4 => fr_pc (pc' := 16) rfl ?_)
    refine fr_aI0 dd_Mo_readPart_16 (fun x5 => fr_pc (pc' := 17) rfl ?_)
    refine fp_istore_n (i := 2) dd_Mo_readPart_17 rfl (Nat.le_of_ble_eq_true rfl) (fun _ => c1_i rfl) (fr_to (pc' := 18) (env' := [some (sf_rv p0), some (.int p1), some (.int x5)]) (stk' := []) rfl rfl rfl ?_)
    refine fp_iload_n (i := 2) (x := x5) dd_Mo_readPart_18 rfl rfl (fr_pc (pc' := 19) rfl ?_)
    refine fp_bipush (v := (91 : Int32)) dd_Mo_readPart_19 (by decide) (fr_pc (pc' := 21) rfl ?_)
    refine fr_callS (stk := [.int x5]) (ok_Mo_sign (91 : Int32)) mt_Mo_sign rfl rfl sw_1375 sw_1376 (by dsimp only [sf_deep]; omega) (Nat.le_of_ble_eq_true rfl) dd_Mo_readPart_21 (fun x6 => fr_to (pc' := 24) (env' := [some (sf_rv p0), some (.int p1), some (.int x5)]) (stk' := [.int x6, .int x5]) rfl rfl rfl ?_)
    refine fr_icmp_ne (tgt := 74) dd_Mo_readPart_24 rfl (fun _ => ?_) (fun _ => ?_)
    · refine fr_pc (pc' := 27) rfl ?_
      refine fp_iload_n (i := 1) (x := p1) dd_Mo_readPart_27 rfl rfl (fr_pc (pc' := 28) rfl ?_)
      refine fp_bipush (v := (8 : Int32)) dd_Mo_readPart_28 (by decide) (fr_pc (pc' := 30) rfl ?_)
      refine fr_bnd (l1 := (fun (v10 : (Unit)) => sf_p 37 [some (sf_rv p0), some (.int p1), some (.int x5)] [])) ?_ (fun v10 => ?_)
      · refine fr_icmp_ne (tgt := 37) dd_Mo_readPart_30 rfl (fun _ => ?_) (fun _ => ?_)
        · refine fr_pc (pc' := 33) rfl ?_
          refine fp_aload_n (i := 0) (r := p0) dd_Mo_readPart_33 rfl rfl (fr_pc (pc' := 34) rfl ?_)
          refine fr_callV (stk := []) (As := []) cl_11 (ok_Mo_faults p0) mt_Mo_faults rfl rfl sw_1378 sw_1380 sp_43 (by dsimp only [sf_deep]; omega) (Nat.le_of_ble_eq_true rfl) dd_Mo_readPart_34 (fun u9 => fr_to (pc' := 37) (env' := [some (sf_rv p0), some (.int p1), some (.int x5)]) (stk' := []) rfl rfl rfl ?_)
          exact fr_ret rfl
        · exact fr_ret rfl
      · refine fp_aload_n (i := 0) (r := p0) dd_Mo_readPart_37 rfl rfl (fr_pc (pc' := 38) rfl ?_)
        refine fr_callV (stk := []) (As := []) cl_11 (ok_Mo_fine p0) mt_Mo_fine rfl rfl sw_1359 sw_1361 sp_39 (by dsimp only [sf_deep]; omega) (Nat.le_of_ble_eq_true rfl) dd_Mo_readPart_38 (fun x11 => fr_to (pc' := 41) (env' := [some (sf_rv p0), some (.int p1), some (.int x5)]) (stk' := [.int x11]) rfl rfl rfl ?_)
        refine fr_if_ne (tgt := 45) dd_Mo_readPart_41 rfl (fun _ => ?_) (fun _ => ?_)
        · refine fr_pc (pc' := 44) rfl ?_
          exact fr_vret rfl rfl dd_Mo_readPart_44
        · refine fp_aload_n (i := 0) (r := p0) dd_Mo_readPart_45 rfl rfl (fr_pc (pc' := 46) rfl ?_)
          refine fp_dup_r dd_Mo_readPart_46 (fr_pc (pc' := 47) rfl ?_)
          refine fr_gI cl_11 19 (by decide) rfl sw_1091 dd_Mo_readPart_47 (fun x13 => fr_pc (pc' := 50) rfl ?_)
          refine fp_iconst (v := (1 : Int32)) dd_Mo_readPart_50 (by decide) (fr_pc (pc' := 51) rfl ?_)
          refine fp_iadd dd_Mo_readPart_51 (fr_pc (pc' := 52) rfl ?_)
          refine fr_pI cl_11 19 (by decide) rfl sw_1091 rfl ⟨rfl, rfl⟩ dd_Mo_readPart_52 (fr_pc (pc' := 55) rfl ?_)
          refine fp_aload_n (i := 0) (r := p0) dd_Mo_readPart_55 rfl rfl (fr_pc (pc' := 56) rfl ?_)
          refine fp_iload_n (i := 1) (x := p1) dd_Mo_readPart_56 rfl rfl (fr_pc (pc' := 57) rfl ?_)
          refine fp_iconst (v := (1 : Int32)) dd_Mo_readPart_57 (by decide) (fr_pc (pc' := 58) rfl ?_)
          refine fp_iadd dd_Mo_readPart_58 (fr_pc (pc' := 59) rfl ?_)
          refine fr_callV (stk := []) (As := [.int (p1 + (1 : Int32))]) cl_11 (hR_Mo_readSum p0 (p1 + (1 : Int32))) mt_Mo_readSum rfl rfl sw_1363 sw_1365 sp_40 (by dsimp only [sf_deep]; omega) (Nat.le_of_ble_eq_true rfl) dd_Mo_readPart_59 (fun u14 => fr_to (pc' := 62) (env' := [some (sf_rv p0), some (.int p1), some (.int x5)]) (stk' := []) rfl rfl rfl ?_)
          refine fp_aload_n (i := 0) (r := p0) dd_Mo_readPart_62 rfl rfl (fr_pc (pc' := 63) rfl ?_)
          refine fp_bipush (v := (93 : Int32)) dd_Mo_readPart_63 (by decide) (fr_pc (pc' := 65) rfl ?_)
          refine fr_callS (stk := [sf_rv p0]) (ok_Mo_sign (93 : Int32)) mt_Mo_sign rfl rfl sw_1375 sw_1376 (by dsimp only [sf_deep]; omega) (Nat.le_of_ble_eq_true rfl) dd_Mo_readPart_65 (fun x15 => fr_to (pc' := 68) (env' := [some (sf_rv p0), some (.int p1), some (.int x5)]) (stk' := [.int x15, sf_rv p0]) rfl rfl rfl ?_)
          refine fr_callV (stk := []) (As := [.int x15]) cl_11 (ok_Mo_must p0 x15) mt_Mo_must rfl rfl sw_1382 sw_1384 sp_44 (by dsimp only [sf_deep]; omega) (Nat.le_of_ble_eq_true rfl) dd_Mo_readPart_68 (fun u16 => fr_to (pc' := 71) (env' := [some (sf_rv p0), some (.int p1), some (.int x5)]) (stk' := []) rfl rfl rfl ?_)
          refine fp_goto (tgt := 141) dd_Mo_readPart_71 rfl ?_
          exact fr_vret rfl rfl dd_Mo_readPart_141
    · refine fp_iload_n (i := 2) (x := x5) dd_Mo_readPart_74 rfl rfl (fr_pc (pc' := 75) rfl ?_)
      refine fp_bipush (v := (50 : Int32)) dd_Mo_readPart_75 (by decide) (fr_pc (pc' := 77) rfl ?_)
      refine fr_or (l1 := (fun (v29 : (Unit)) => sf_p 111 [some (sf_rv p0), some (.int p1), some (.int x5)] [])) ?_ (fun v29 => ?_)
      · refine fr_or (l1 := (fun (v22 : (Unit)) => sf_p 95 [some (sf_rv p0), some (.int p1), some (.int x5)] [])) ?_ (fun v22 => ?_)
        · refine fr_icmp_ne (tgt := 95) dd_Mo_readPart_77 rfl (fun _ => ?_) (fun _ => ?_)
          · refine fr_pc (pc' := 80) rfl ?_
            refine fp_aload_n (i := 0) (r := p0) dd_Mo_readPart_80 rfl rfl (fr_pc (pc' := 81) rfl ?_)
            refine fr_gR cl_11 16 (by decide) rfl sw_1088 dd_Mo_readPart_81 (fun x18 => fr_pc (pc' := 84) rfl ?_)
            refine fp_aload_n (i := 0) (r := p0) dd_Mo_readPart_84 rfl rfl (fr_pc (pc' := 85) rfl ?_)
            refine fr_gI cl_11 19 (by decide) rfl sw_1091 dd_Mo_readPart_85 (fun x19 => fr_pc (pc' := 88) rfl ?_)
            refine fr_aI0 dd_Mo_readPart_88 (fun x20 => fr_pc (pc' := 89) rfl ?_)
            refine fp_sipush (v := (1000 : Int32)) dd_Mo_readPart_89 (by decide) (fr_pc (pc' := 92) rfl ?_)
            refine fr_icmp_le (tgt := 111) dd_Mo_readPart_92 rfl (fun _ => ?_) (fun _ => ?_)
            · exact fr_ret rfl
            · refine fr_pc (pc' := 95) rfl ?_
              exact fr_ret rfl
          · exact fr_ret rfl
        · refine fp_iload_n (i := 2) (x := x5) dd_Mo_readPart_95 rfl rfl (fr_pc (pc' := 96) rfl ?_)
          refine fp_aload_n (i := 0) (r := p0) dd_Mo_readPart_96 rfl rfl (fr_pc (pc' := 97) rfl ?_)
          refine fr_gI cl_11 8 (by decide) rfl sw_1080 dd_Mo_readPart_97 (fun x23 => fr_pc (pc' := 100) rfl ?_)
          refine fr_or (l1 := (fun (v27 : (Unit)) => sf_p 137 [some (sf_rv p0), some (.int p1), some (.int x5)] [])) ?_ (fun v27 => ?_)
          · refine fr_icmp_lt (tgt := 137) dd_Mo_readPart_100 rfl (fun _ => ?_) (fun _ => ?_)
            · exact fr_ret rfl
            · refine fr_pc (pc' := 103) rfl ?_
              refine fp_iload_n (i := 2) (x := x5) dd_Mo_readPart_103 rfl rfl (fr_pc (pc' := 104) rfl ?_)
              refine fp_aload_n (i := 0) (r := p0) dd_Mo_readPart_104 rfl rfl (fr_pc (pc' := 105) rfl ?_)
              refine fr_gI cl_11 9 (by decide) rfl sw_1081 dd_Mo_readPart_105 (fun x25 => fr_pc (pc' := 108) rfl ?_)
              refine fr_icmp_gt (tgt := 137) dd_Mo_readPart_108 rfl (fun _ => ?_) (fun _ => ?_)
              · exact fr_ret rfl
              · refine fr_pc (pc' := 111) rfl ?_
                exact fr_ret rfl
          · refine fp_aload_n (i := 0) (r := p0) dd_Mo_readPart_137 rfl rfl (fr_pc (pc' := 138) rfl ?_)
            refine fr_callV (stk := []) (As := []) cl_11 (ok_Mo_faults p0) mt_Mo_faults rfl rfl sw_1378 sw_1380 sp_43 (by dsimp only [sf_deep]; omega) (Nat.le_of_ble_eq_true rfl) dd_Mo_readPart_138 (fun u28 => fr_to (pc' := 141) (env' := [some (sf_rv p0), some (.int p1), some (.int x5)]) (stk' := []) rfl rfl rfl ?_)
            exact fr_vret rfl rfl dd_Mo_readPart_141
      · refine fp_aload_n (i := 0) (r := p0) dd_Mo_readPart_111 rfl rfl (fr_pc (pc' := 112) rfl ?_)
        refine fr_callV (stk := []) (As := []) cl_11 (ok_Mo_leaf p0) mt_Mo_leaf rfl rfl sw_1386 sw_1388 sp_45 (by dsimp only [sf_deep]; omega) (Nat.le_of_ble_eq_true rfl) dd_Mo_readPart_112 (fun u30 => fr_to (pc' := 115) (env' := [some (sf_rv p0), some (.int p1), some (.int x5)]) (stk' := []) rfl rfl rfl ?_)
        refine fp_aload_n (i := 0) (r := p0) dd_Mo_readPart_115 rfl rfl (fr_pc (pc' := 116) rfl ?_)
        refine fr_gI cl_11 10 (by decide) rfl sw_1082 dd_Mo_readPart_116 (fun x31 => fr_pc (pc' := 119) rfl ?_)
        refine fr_if_eq (tgt := 141) dd_Mo_readPart_119 rfl (fun _ => ?_) (fun _ => ?_)
        · exact fr_vret rfl rfl dd_Mo_readPart_141
        · refine fr_pc (pc' := 122) rfl ?_
          refine fp_iload_n (i := 2) (x := x5) dd_Mo_readPart_122 rfl rfl (fr_pc (pc' := 123) rfl ?_)
          refine fp_bipush (v := (19 : Int32)) dd_Mo_readPart_123 (by decide) (fr_pc (pc' := 125) rfl ?_)
          refine fr_icmp_ne (tgt := 141) dd_Mo_readPart_125 rfl (fun _ => ?_) (fun _ => ?_)
          · refine fr_pc (pc' := 128) rfl ?_
            refine fp_aload_n (i := 0) (r := p0) dd_Mo_readPart_128 rfl rfl (fr_pc (pc' := 129) rfl ?_)
            refine fp_iconst (v := (0 : Int32)) dd_Mo_readPart_129 (by decide) (fr_pc (pc' := 130) rfl ?_)
            refine fp_iconst (v := (5 : Int32)) dd_Mo_readPart_130 (by decide) (fr_pc (pc' := 131) rfl ?_)
            refine fr_callV (stk := []) (As := [.int (0 : Int32), .int (5 : Int32)]) cl_11 (ok_Mo_mustNumber p0 (0 : Int32) (5 : Int32)) mt_Mo_mustNumber rfl rfl sw_1390 sw_1392 sp_46 (by dsimp only [sf_deep]; omega) (Nat.le_of_ble_eq_true rfl) dd_Mo_readPart_131 (fun u34 => fr_to (pc' := 134) (env' := [some (sf_rv p0), some (.int p1), some (.int x5)]) (stk' := []) rfl rfl rfl ?_)
            refine fp_goto (tgt := 141) dd_Mo_readPart_134 rfl ?_
            exact fr_vret rfl rfl dd_Mo_readPart_141
          · exact fr_vret rfl rfl dd_Mo_readPart_141
def jx_G2 : Nat → Nat → Option Nat → Int32 → sf_M (Unit)
  | 0, _, _, _ => sf_nil
  | n + 1, t, a0, a1 => if t = 0 then jb_Mo_readSum (jx_G2 n) a0 a1 else if t = 1 then jb_Mo_readTerm (jx_G2 n) a0 a1 else jb_Mo_readPart (jx_G2 n) a0 a1
theorem okG_2 : ∀ (n : Nat) (a0 : Option Nat) (a1 : Int32), (sf_Ok ({ cls := "SplitFaresModel", name := "readSum", desc := "(I)V" } : Jvm.MethodName) prog_13_method_50_code 2 none (3 + n) [sf_rv a0, .int a1] (jx_G2 n 0 a0 a1) (fun _ => none)) ∧ (sf_Ok ({ cls := "SplitFaresModel", name := "readTerm", desc := "(I)V" } : Jvm.MethodName) prog_13_method_51_code 2 none (3 + n) [sf_rv a0, .int a1] (jx_G2 n 1 a0 a1) (fun _ => none)) ∧ (sf_Ok ({ cls := "SplitFaresModel", name := "readPart", desc := "(I)V" } : Jvm.MethodName) prog_13_method_52_code 3 none (3 + n) [sf_rv a0, .int a1] (jx_G2 n 2 a0 a1) (fun _ => none))
  | 0, _, _ => ⟨sf_Ok.nil, sf_Ok.nil, sf_Ok.nil⟩
  | n + 1, a0, a1 => ⟨okb_Mo_readSum n (jx_G2 n) (fun b0 b1 => (okG_2 n b0 b1).2.1) a0 a1, okb_Mo_readTerm n (jx_G2 n) (fun b0 b1 => (okG_2 n b0 b1).2.2) a0 a1, okb_Mo_readPart n (jx_G2 n) (fun b0 b1 => (okG_2 n b0 b1).1) a0 a1⟩
theorem ok_Mo_readSum (n : Nat) (a0 : Option Nat) (a1 : Int32) : sf_Ok ({ cls := "SplitFaresModel", name := "readSum", desc := "(I)V" } : Jvm.MethodName) prog_13_method_50_code 2 none (3 + n) [sf_rv a0, .int a1] (jx_G2 n 0 a0 a1) (fun _ => none) := (okG_2 n a0 a1).1
theorem ok_Mo_readTerm (n : Nat) (a0 : Option Nat) (a1 : Int32) : sf_Ok ({ cls := "SplitFaresModel", name := "readTerm", desc := "(I)V" } : Jvm.MethodName) prog_13_method_51_code 2 none (3 + n) [sf_rv a0, .int a1] (jx_G2 n 1 a0 a1) (fun _ => none) := (okG_2 n a0 a1).2.1
theorem ok_Mo_readPart (n : Nat) (a0 : Option Nat) (a1 : Int32) : sf_Ok ({ cls := "SplitFaresModel", name := "readPart", desc := "(I)V" } : Jvm.MethodName) prog_13_method_52_code 3 none (3 + n) [sf_rv a0, .int a1] (jx_G2 n 2 a0 a1) (fun _ => none) := (okG_2 n a0 a1).2.2
theorem mt_Mo_readTest : sf_Mt ({ cls := "SplitFaresModel", name := "readTest", desc := "(I)V" } : Jvm.MethodName) prog_13_method_47_code 2 none 1 := ⟨sw_1397, sw_12, ⟨by decide, by decide, by decide +kernel⟩, by decide⟩
theorem dd_Mo_readTest_0 : decode prog_13_method_47_code 0 = .ok (.aload_n 0, 1) := by decide +kernel
theorem dd_Mo_readTest_1 : decode prog_13_method_47_code 1 = .ok (.iload_n 1, 1) := by decide +kernel
theorem dd_Mo_readTest_2 : decode prog_13_method_47_code 2 = .ok (.invokevirtual 218, 3) := by decide +kernel
theorem dd_Mo_readTest_5 : decode prog_13_method_47_code 5 = .ok (.aload_n 0, 1) := by decide +kernel
theorem dd_Mo_readTest_6 : decode prog_13_method_47_code 6 = .ok (.iconst 4, 1) := by decide +kernel
theorem dd_Mo_readTest_7 : decode prog_13_method_47_code 7 = .ok (.invokevirtual 185, 3) := by decide +kernel
theorem dd_Mo_readTest_10 : decode prog_13_method_47_code 10 = .ok (.ifCond .eq 11, 3) := by decide +kernel
theorem dd_Mo_readTest_13 : decode prog_13_method_47_code 13 = .ok (.aload_n 0, 1) := by decide +kernel
theorem dd_Mo_readTest_14 : decode prog_13_method_47_code 14 = .ok (.iload_n 1, 1) := by decide +kernel
theorem dd_Mo_readTest_15 : decode prog_13_method_47_code 15 = .ok (.invokevirtual 218, 3) := by decide +kernel
theorem dd_Mo_readTest_18 : decode prog_13_method_47_code 18 = .ok (.goto (-13), 3) := by decide +kernel
theorem dd_Mo_readTest_21 : decode prog_13_method_47_code 21 = .ok (.return_, 1) := by decide +kernel
theorem mt_Mo_readBoth : sf_Mt ({ cls := "SplitFaresModel", name := "readBoth", desc := "(I)V" } : Jvm.MethodName) prog_13_method_48_code 2 none 1 := ⟨sw_1401, sw_12, ⟨by decide, by decide, by decide +kernel⟩, by decide⟩
theorem dd_Mo_readBoth_0 : decode prog_13_method_48_code 0 = .ok (.aload_n 0, 1) := by decide +kernel
theorem dd_Mo_readBoth_1 : decode prog_13_method_48_code 1 = .ok (.iload_n 1, 1) := by decide +kernel
theorem dd_Mo_readBoth_2 : decode prog_13_method_48_code 2 = .ok (.invokevirtual 221, 3) := by decide +kernel
theorem dd_Mo_readBoth_5 : decode prog_13_method_48_code 5 = .ok (.aload_n 0, 1) := by decide +kernel
theorem dd_Mo_readBoth_6 : decode prog_13_method_48_code 6 = .ok (.iconst 5, 1) := by decide +kernel
theorem dd_Mo_readBoth_7 : decode prog_13_method_48_code 7 = .ok (.invokevirtual 185, 3) := by decide +kernel
theorem dd_Mo_readBoth_10 : decode prog_13_method_48_code 10 = .ok (.ifCond .eq 11, 3) := by decide +kernel
theorem dd_Mo_readBoth_13 : decode prog_13_method_48_code 13 = .ok (.aload_n 0, 1) := by decide +kernel
theorem dd_Mo_readBoth_14 : decode prog_13_method_48_code 14 = .ok (.iload_n 1, 1) := by decide +kernel
theorem dd_Mo_readBoth_15 : decode prog_13_method_48_code 15 = .ok (.invokevirtual 221, 3) := by decide +kernel
theorem dd_Mo_readBoth_18 : decode prog_13_method_48_code 18 = .ok (.goto (-13), 3) := by decide +kernel
theorem dd_Mo_readBoth_21 : decode prog_13_method_48_code 21 = .ok (.return_, 1) := by decide +kernel
theorem mt_Mo_readPlain : sf_Mt ({ cls := "SplitFaresModel", name := "readPlain", desc := "(I)V" } : Jvm.MethodName) prog_13_method_49_code 4 none 1 := ⟨sw_1405, sw_12, ⟨by decide, by decide, by decide +kernel⟩, by decide⟩
theorem dd_Mo_readPlain_0 : decode prog_13_method_49_code 0 = .ok (.iconst 1, 1) := by decide +kernel
theorem dd_Mo_readPlain_1 : decode prog_13_method_49_code 1 = .ok (.istore_n 2, 1) := by decide +kernel
theorem dd_Mo_readPlain_2 : decode prog_13_method_49_code 2 = .ok (.iload_n 2, 1) := by decide +kernel
theorem dd_Mo_readPlain_3 : decode prog_13_method_49_code 3 = .ok (.ifCond .eq 13, 3) := by decide +kernel
theorem dd_Mo_readPlain_6 : decode prog_13_method_49_code 6 = .ok (.aload_n 0, 1) := by decide +kernel
theorem dd_Mo_readPlain_7 : decode prog_13_method_49_code 7 = .ok (.bipush 6, 2) := by decide +kernel
theorem dd_Mo_readPlain_9 : decode prog_13_method_49_code 9 = .ok (.invokevirtual 185, 3) := by decide +kernel
theorem dd_Mo_readPlain_12 : decode prog_13_method_49_code 12 = .ok (.istore_n 2, 1) := by decide +kernel
theorem dd_Mo_readPlain_13 : decode prog_13_method_49_code 13 = .ok (.goto (-11), 3) := by decide +kernel
theorem dd_Mo_readPlain_16 : decode prog_13_method_49_code 16 = .ok (.aload_n 0, 1) := by decide +kernel
theorem dd_Mo_readPlain_17 : decode prog_13_method_49_code 17 = .ok (.invokevirtual 178, 3) := by decide +kernel
theorem dd_Mo_readPlain_20 : decode prog_13_method_49_code 20 = .ok (.ifCond .ne 4, 3) := by decide +kernel
theorem dd_Mo_readPlain_23 : decode prog_13_method_49_code 23 = .ok (.return_, 1) := by decide +kernel
theorem dd_Mo_readPlain_24 : decode prog_13_method_49_code 24 = .ok (.aload_n 0, 1) := by decide +kernel
theorem dd_Mo_readPlain_25 : decode prog_13_method_49_code 25 = .ok (.getfield 58, 3) := by decide +kernel
theorem dd_Mo_readPlain_28 : decode prog_13_method_49_code 28 = .ok (.aload_n 0, 1) := by decide +kernel
theorem dd_Mo_readPlain_29 : decode prog_13_method_49_code 29 = .ok (.getfield 182, 3) := by decide +kernel
theorem dd_Mo_readPlain_32 : decode prog_13_method_49_code 32 = .ok (.iaload, 1) := by decide +kernel
theorem dd_Mo_readPlain_33 : decode prog_13_method_49_code 33 = .ok (.istore_n 3, 1) := by decide +kernel
theorem dd_Mo_readPlain_34 : decode prog_13_method_49_code 34 = .ok (.iload_n 3, 1) := by decide +kernel
theorem dd_Mo_readPlain_35 : decode prog_13_method_49_code 35 = .ok (.bipush 40, 2) := by decide +kernel
theorem dd_Mo_readPlain_37 : decode prog_13_method_49_code 37 = .ok (.invokestatic 224, 3) := by decide +kernel
theorem dd_Mo_readPlain_40 : decode prog_13_method_49_code 40 = .ok (.if_icmp .ne 50, 3) := by decide +kernel
theorem dd_Mo_readPlain_43 : decode prog_13_method_49_code 43 = .ok (.iload_n 1, 1) := by decide +kernel
theorem dd_Mo_readPlain_44 : decode prog_13_method_49_code 44 = .ok (.bipush 8, 2) := by decide +kernel
theorem dd_Mo_readPlain_46 : decode prog_13_method_49_code 46 = .ok (.if_icmp .ne 7, 3) := by decide +kernel
theorem dd_Mo_readPlain_49 : decode prog_13_method_49_code 49 = .ok (.aload_n 0, 1) := by decide +kernel
theorem dd_Mo_readPlain_50 : decode prog_13_method_49_code 50 = .ok (.invokevirtual 188, 3) := by decide +kernel
theorem dd_Mo_readPlain_53 : decode prog_13_method_49_code 53 = .ok (.aload_n 0, 1) := by decide +kernel
theorem dd_Mo_readPlain_54 : decode prog_13_method_49_code 54 = .ok (.invokevirtual 178, 3) := by decide +kernel
theorem dd_Mo_readPlain_57 : decode prog_13_method_49_code 57 = .ok (.ifCond .ne 4, 3) := by decide +kernel
theorem dd_Mo_readPlain_60 : decode prog_13_method_49_code 60 = .ok (.return_, 1) := by decide +kernel
theorem dd_Mo_readPlain_61 : decode prog_13_method_49_code 61 = .ok (.aload_n 0, 1) := by decide +kernel
theorem dd_Mo_readPlain_62 : decode prog_13_method_49_code 62 = .ok (.dup, 1) := by decide +kernel
theorem dd_Mo_readPlain_63 : decode prog_13_method_49_code 63 = .ok (.getfield 182, 3) := by decide +kernel
theorem dd_Mo_readPlain_66 : decode prog_13_method_49_code 66 = .ok (.iconst 1, 1) := by decide +kernel
theorem dd_Mo_readPlain_67 : decode prog_13_method_49_code 67 = .ok (.iadd, 1) := by decide +kernel
theorem dd_Mo_readPlain_68 : decode prog_13_method_49_code 68 = .ok (.putfield 182, 3) := by decide +kernel
theorem dd_Mo_readPlain_71 : decode prog_13_method_49_code 71 = .ok (.aload_n 0, 1) := by decide +kernel
theorem dd_Mo_readPlain_72 : decode prog_13_method_49_code 72 = .ok (.iload_n 1, 1) := by decide +kernel
theorem dd_Mo_readPlain_73 : decode prog_13_method_49_code 73 = .ok (.iconst 1, 1) := by decide +kernel
theorem dd_Mo_readPlain_74 : decode prog_13_method_49_code 74 = .ok (.iadd, 1) := by decide +kernel
theorem dd_Mo_readPlain_75 : decode prog_13_method_49_code 75 = .ok (.invokevirtual 201, 3) := by decide +kernel
theorem dd_Mo_readPlain_78 : decode prog_13_method_49_code 78 = .ok (.aload_n 0, 1) := by decide +kernel
theorem dd_Mo_readPlain_79 : decode prog_13_method_49_code 79 = .ok (.bipush 41, 2) := by decide +kernel
theorem dd_Mo_readPlain_81 : decode prog_13_method_49_code 81 = .ok (.invokestatic 224, 3) := by decide +kernel
theorem dd_Mo_readPlain_84 : decode prog_13_method_49_code 84 = .ok (.invokevirtual 198, 3) := by decide +kernel
theorem dd_Mo_readPlain_87 : decode prog_13_method_49_code 87 = .ok (.goto 46, 3) := by decide +kernel
theorem dd_Mo_readPlain_90 : decode prog_13_method_49_code 90 = .ok (.aload_n 0, 1) := by decide +kernel
theorem dd_Mo_readPlain_91 : decode prog_13_method_49_code 91 = .ok (.iload_n 1, 1) := by decide +kernel
theorem dd_Mo_readPlain_92 : decode prog_13_method_49_code 92 = .ok (.invokevirtual 194, 3) := by decide +kernel
theorem dd_Mo_readPlain_95 : decode prog_13_method_49_code 95 = .ok (.aload_n 0, 1) := by decide +kernel
theorem dd_Mo_readPlain_96 : decode prog_13_method_49_code 96 = .ok (.bipush 60, 2) := by decide +kernel
theorem dd_Mo_readPlain_98 : decode prog_13_method_49_code 98 = .ok (.invokestatic 224, 3) := by decide +kernel
theorem dd_Mo_readPlain_101 : decode prog_13_method_49_code 101 = .ok (.invokevirtual 185, 3) := by decide +kernel
theorem dd_Mo_readPlain_104 : decode prog_13_method_49_code 104 = .ok (.ifCond .ne 24, 3) := by decide +kernel
theorem dd_Mo_readPlain_107 : decode prog_13_method_49_code 107 = .ok (.aload_n 0, 1) := by decide +kernel
theorem dd_Mo_readPlain_108 : decode prog_13_method_49_code 108 = .ok (.bipush 62, 2) := by decide +kernel
theorem dd_Mo_readPlain_110 : decode prog_13_method_49_code 110 = .ok (.invokestatic 224, 3) := by decide +kernel
theorem dd_Mo_readPlain_113 : decode prog_13_method_49_code 113 = .ok (.invokevirtual 185, 3) := by decide +kernel
theorem dd_Mo_readPlain_116 : decode prog_13_method_49_code 116 = .ok (.ifCond .ne 12, 3) := by decide +kernel
theorem dd_Mo_readPlain_119 : decode prog_13_method_49_code 119 = .ok (.aload_n 0, 1) := by decide +kernel
theorem dd_Mo_readPlain_120 : decode prog_13_method_49_code 120 = .ok (.bipush 61, 2) := by decide +kernel
theorem dd_Mo_readPlain_122 : decode prog_13_method_49_code 122 = .ok (.invokestatic 224, 3) := by decide +kernel
theorem dd_Mo_readPlain_125 : decode prog_13_method_49_code 125 = .ok (.invokevirtual 198, 3) := by decide +kernel
theorem dd_Mo_readPlain_128 : decode prog_13_method_49_code 128 = .ok (.aload_n 0, 1) := by decide +kernel
theorem dd_Mo_readPlain_129 : decode prog_13_method_49_code 129 = .ok (.iload_n 1, 1) := by decide +kernel
theorem dd_Mo_readPlain_130 : decode prog_13_method_49_code 130 = .ok (.invokevirtual 194, 3) := by decide +kernel
theorem dd_Mo_readPlain_133 : decode prog_13_method_49_code 133 = .ok (.return_, 1) := by decide +kernel
def jb_Mo_readTest (R : Nat → Option Nat → Int32 → sf_M (Unit)) (p0 : Option Nat) (p1 : Int32) : sf_M (Unit) :=
  sf_bnd (sf_rc 11 p0 (R 1 p0 p1)) fun _ =>
  sf_bnd (sf_loop (β := (Unit)) (γ := (Unit)) (fun b2 =>
  sf_bnd (sf_rc 11 p0 (jx_Mo_takes0 p0 (4 : Int32))) fun x3 =>
  if x3 = 0 then (
  sf_ret (.inr ())
  ) else (
  sf_bnd (sf_rc 11 p0 (R 1 p0 p1)) fun _ =>
  sf_ret (.inl ())
  )
  ) sf_fuel ()) (fun e6 =>
  sf_ret ()
  )
set_option maxRecDepth 20000 in
set_option maxHeartbeats 4000000 in
theorem okb_Mo_readTest (n : Nat) (R : Nat → Option Nat → Int32 → sf_M (Unit)) (hR_Mo_readBoth : ∀ (a0 : Option Nat) (a1 : Int32), sf_Ok ({ cls := "SplitFaresModel", name := "readBoth", desc := "(I)V" } : Jvm.MethodName) prog_13_method_48_code 2 none (104 + n) [sf_rv a0, .int a1] (R 1 a0 a1) (fun _ => none)) (p0 : Option Nat) (p1 : Int32) : sf_Ok ({ cls := "SplitFaresModel", name := "readTest", desc := "(I)V" } : Jvm.MethodName) prog_13_method_47_code 2 none (104 + n + 1) [sf_rv p0, .int p1] (jb_Mo_readTest R p0 p1) (fun _ => none) := by
  refine sf_Ok.of (env := [some (sf_rv p0), some (.int p1)]) (plainFor_of_name (by decide)) [false, false] (fun G => ⟨pk_r, pk_i, trivial⟩) (Nat.le_of_ble_eq_true rfl) rfl (fun X => ?_)
  unfold jb_Mo_readTest
  refine fp_aload_n (i := 0) (r := p0) dd_Mo_readTest_0 rfl rfl (fr_pc (pc' := 1) rfl ?_)
  refine fp_iload_n (i := 1) (x := p1) dd_Mo_readTest_1 rfl rfl (fr_pc (pc' := 2) rfl ?_)
  refine fr_callV (stk := []) (As := [.int p1]) cl_11 (hR_Mo_readBoth p0 p1) mt_Mo_readBoth rfl rfl sw_1398 sw_1400 sp_48 (by dsimp only [sf_deep]; omega) (Nat.le_of_ble_eq_true rfl) dd_Mo_readTest_2 (fun u1 => fr_to (pc' := 5) (env' := [some (sf_rv p0), some (.int p1)]) (stk' := []) rfl rfl rfl ?_)
  refine fr_to (pc' := 5) (env' := [some (sf_rv p0), some (.int p1)]) (stk' := []) rfl rfl rfl ?_
  refine fr_bnd (l1 := (fun (e6 : (Unit)) => sf_p 21 [some (sf_rv p0), some (.int p1)] [])) (fr_loop (Lb := (fun (b2 : (Unit)) => sf_p 5 [some (sf_rv p0), some (.int p1)] [])) (fun b2 => ?_) _ _) (fun e6 => ?_)
  · refine fp_aload_n (i := 0) (r := p0) dd_Mo_readTest_5 rfl rfl (fr_pc (pc' := 6) rfl ?_)
    refine fp_iconst (v := (4 : Int32)) dd_Mo_readTest_6 (by decide) (fr_pc (pc' := 7) rfl ?_)
    refine fr_callV (stk := []) (As := [.int (4 : Int32)]) cl_11 (ok_Mo_takes0 p0 (4 : Int32)) mt_Mo_takes0 rfl rfl sw_1355 sw_1357 sp_38 (by dsimp only [sf_deep]; omega) (Nat.le_of_ble_eq_true rfl) dd_Mo_readTest_7 (fun x3 => fr_to (pc' := 10) (env' := [some (sf_rv p0), some (.int p1)]) (stk' := [.int x3]) rfl rfl rfl ?_)
    refine fr_if_eq (tgt := 21) dd_Mo_readTest_10 rfl (fun _ => ?_) (fun _ => ?_)
    · exact fr_ret rfl
    · refine fr_pc (pc' := 13) rfl ?_
      refine fp_aload_n (i := 0) (r := p0) dd_Mo_readTest_13 rfl rfl (fr_pc (pc' := 14) rfl ?_)
      refine fp_iload_n (i := 1) (x := p1) dd_Mo_readTest_14 rfl rfl (fr_pc (pc' := 15) rfl ?_)
      refine fr_callV (stk := []) (As := [.int p1]) cl_11 (hR_Mo_readBoth p0 p1) mt_Mo_readBoth rfl rfl sw_1398 sw_1400 sp_48 (by dsimp only [sf_deep]; omega) (Nat.le_of_ble_eq_true rfl) dd_Mo_readTest_15 (fun u5 => fr_to (pc' := 18) (env' := [some (sf_rv p0), some (.int p1)]) (stk' := []) rfl rfl rfl ?_)
      refine fp_goto (tgt := 5) dd_Mo_readTest_18 rfl ?_
      exact fr_ret rfl
  · exact fr_vret rfl rfl dd_Mo_readTest_21
def jb_Mo_readBoth (R : Nat → Option Nat → Int32 → sf_M (Unit)) (p0 : Option Nat) (p1 : Int32) : sf_M (Unit) :=
  sf_bnd (sf_rc 11 p0 (R 2 p0 p1)) fun _ =>
  sf_bnd (sf_loop (β := (Unit)) (γ := (Unit)) (fun b2 =>
  sf_bnd (sf_rc 11 p0 (jx_Mo_takes0 p0 (5 : Int32))) fun x3 =>
  if x3 = 0 then (
  sf_ret (.inr ())
  ) else (
  sf_bnd (sf_rc 11 p0 (R 2 p0 p1)) fun _ =>
  sf_ret (.inl ())
  )
  ) sf_fuel ()) (fun e6 =>
  sf_ret ()
  )
set_option maxRecDepth 20000 in
set_option maxHeartbeats 4000000 in
theorem okb_Mo_readBoth (n : Nat) (R : Nat → Option Nat → Int32 → sf_M (Unit)) (hR_Mo_readPlain : ∀ (a0 : Option Nat) (a1 : Int32), sf_Ok ({ cls := "SplitFaresModel", name := "readPlain", desc := "(I)V" } : Jvm.MethodName) prog_13_method_49_code 4 none (104 + n) [sf_rv a0, .int a1] (R 2 a0 a1) (fun _ => none)) (p0 : Option Nat) (p1 : Int32) : sf_Ok ({ cls := "SplitFaresModel", name := "readBoth", desc := "(I)V" } : Jvm.MethodName) prog_13_method_48_code 2 none (104 + n + 1) [sf_rv p0, .int p1] (jb_Mo_readBoth R p0 p1) (fun _ => none) := by
  refine sf_Ok.of (env := [some (sf_rv p0), some (.int p1)]) (plainFor_of_name (by decide)) [false, false] (fun G => ⟨pk_r, pk_i, trivial⟩) (Nat.le_of_ble_eq_true rfl) rfl (fun X => ?_)
  unfold jb_Mo_readBoth
  refine fp_aload_n (i := 0) (r := p0) dd_Mo_readBoth_0 rfl rfl (fr_pc (pc' := 1) rfl ?_)
  refine fp_iload_n (i := 1) (x := p1) dd_Mo_readBoth_1 rfl rfl (fr_pc (pc' := 2) rfl ?_)
  refine fr_callV (stk := []) (As := [.int p1]) cl_11 (hR_Mo_readPlain p0 p1) mt_Mo_readPlain rfl rfl sw_1402 sw_1404 sp_49 (by dsimp only [sf_deep]; omega) (Nat.le_of_ble_eq_true rfl) dd_Mo_readBoth_2 (fun u1 => fr_to (pc' := 5) (env' := [some (sf_rv p0), some (.int p1)]) (stk' := []) rfl rfl rfl ?_)
  refine fr_to (pc' := 5) (env' := [some (sf_rv p0), some (.int p1)]) (stk' := []) rfl rfl rfl ?_
  refine fr_bnd (l1 := (fun (e6 : (Unit)) => sf_p 21 [some (sf_rv p0), some (.int p1)] [])) (fr_loop (Lb := (fun (b2 : (Unit)) => sf_p 5 [some (sf_rv p0), some (.int p1)] [])) (fun b2 => ?_) _ _) (fun e6 => ?_)
  · refine fp_aload_n (i := 0) (r := p0) dd_Mo_readBoth_5 rfl rfl (fr_pc (pc' := 6) rfl ?_)
    refine fp_iconst (v := (5 : Int32)) dd_Mo_readBoth_6 (by decide) (fr_pc (pc' := 7) rfl ?_)
    refine fr_callV (stk := []) (As := [.int (5 : Int32)]) cl_11 (ok_Mo_takes0 p0 (5 : Int32)) mt_Mo_takes0 rfl rfl sw_1355 sw_1357 sp_38 (by dsimp only [sf_deep]; omega) (Nat.le_of_ble_eq_true rfl) dd_Mo_readBoth_7 (fun x3 => fr_to (pc' := 10) (env' := [some (sf_rv p0), some (.int p1)]) (stk' := [.int x3]) rfl rfl rfl ?_)
    refine fr_if_eq (tgt := 21) dd_Mo_readBoth_10 rfl (fun _ => ?_) (fun _ => ?_)
    · exact fr_ret rfl
    · refine fr_pc (pc' := 13) rfl ?_
      refine fp_aload_n (i := 0) (r := p0) dd_Mo_readBoth_13 rfl rfl (fr_pc (pc' := 14) rfl ?_)
      refine fp_iload_n (i := 1) (x := p1) dd_Mo_readBoth_14 rfl rfl (fr_pc (pc' := 15) rfl ?_)
      refine fr_callV (stk := []) (As := [.int p1]) cl_11 (hR_Mo_readPlain p0 p1) mt_Mo_readPlain rfl rfl sw_1402 sw_1404 sp_49 (by dsimp only [sf_deep]; omega) (Nat.le_of_ble_eq_true rfl) dd_Mo_readBoth_15 (fun u5 => fr_to (pc' := 18) (env' := [some (sf_rv p0), some (.int p1)]) (stk' := []) rfl rfl rfl ?_)
      refine fp_goto (tgt := 5) dd_Mo_readBoth_18 rfl ?_
      exact fr_ret rfl
  · exact fr_vret rfl rfl dd_Mo_readBoth_21
def jb_Mo_readPlain (R : Nat → Option Nat → Int32 → sf_M (Unit)) (p0 : Option Nat) (p1 : Int32) : sf_M (Unit) :=
  sf_bnd (sf_loop (β := (Int32)) (γ := (Unit)) (fun b1 =>
  if b1 = 0 then (
  sf_ret (.inr ())
  ) else (
  sf_bnd (sf_rc 11 p0 (jx_Mo_takes0 p0 (6 : Int32))) fun x3 =>
  sf_ret (.inl x3)
  )
  ) sf_fuel (1 : Int32)) (fun e4 =>
  sf_bnd (sf_rc 11 p0 (jx_Mo_fine p0)) fun x5 =>
  if x5 = 0 then (
  sf_ret ()
  ) else (
  sf_bnd (sf_gR 11 15 p0) fun x7 =>
  sf_bnd (sf_gI 11 19 p0) fun x8 =>
  sf_bnd (sf_aI 0 x7 x8) fun x9 =>
  sf_bnd (jx_Mo_sign (40 : Int32)) fun x10 =>
  if x9 = x10 then (
  sf_bnd (α := (Unit)) (
  if p1 = (8 : Int32) then (
  sf_bnd (sf_rc 11 p0 (jx_Mo_faults p0)) fun _ =>
  sf_ret ()
  ) else (
  sf_ret ()
  )
  ) (fun v14 =>
  sf_bnd (sf_rc 11 p0 (jx_Mo_fine p0)) fun x15 =>
  if x15 = 0 then (
  sf_ret ()
  ) else (
  sf_bnd (sf_gI 11 19 p0) fun x17 =>
  sf_bnd (sf_pI 11 19 p0 (x17 + (1 : Int32))) fun _ =>
  sf_bnd (sf_rc 11 p0 (R 0 p0 (p1 + (1 : Int32)))) fun _ =>
  sf_bnd (jx_Mo_sign (41 : Int32)) fun x19 =>
  sf_bnd (sf_rc 11 p0 (jx_Mo_must p0 x19)) fun _ =>
  sf_ret ()
  )
  )
  ) else (
  sf_bnd (sf_rc 11 p0 (jx_G2 sf_deep 0 p0 p1)) fun _ =>
  sf_bnd (jx_Mo_sign (60 : Int32)) fun x22 =>
  sf_bnd (sf_rc 11 p0 (jx_Mo_takes0 p0 x22)) fun x23 =>
  sf_bnd (α := (Unit)) (
  if x23 = 0 then (
  sf_bnd (jx_Mo_sign (62 : Int32)) fun x25 =>
  sf_bnd (sf_rc 11 p0 (jx_Mo_takes0 p0 x25)) fun x26 =>
  if x26 = 0 then (
  sf_bnd (jx_Mo_sign (61 : Int32)) fun x28 =>
  sf_bnd (sf_rc 11 p0 (jx_Mo_must p0 x28)) fun _ =>
  sf_ret ()
  ) else (
  sf_ret ()
  )
  ) else (
  sf_ret ()
  )
  ) (fun v30 =>
  sf_bnd (sf_rc 11 p0 (jx_G2 sf_deep 0 p0 p1)) fun _ =>
  sf_ret ()
  )
  )
  )
  )
set_option maxRecDepth 20000 in
set_option maxHeartbeats 4000000 in
theorem okb_Mo_readPlain (n : Nat) (R : Nat → Option Nat → Int32 → sf_M (Unit)) (hR_Mo_readTest : ∀ (a0 : Option Nat) (a1 : Int32), sf_Ok ({ cls := "SplitFaresModel", name := "readTest", desc := "(I)V" } : Jvm.MethodName) prog_13_method_47_code 2 none (104 + n) [sf_rv a0, .int a1] (R 0 a0 a1) (fun _ => none)) (p0 : Option Nat) (p1 : Int32) : sf_Ok ({ cls := "SplitFaresModel", name := "readPlain", desc := "(I)V" } : Jvm.MethodName) prog_13_method_49_code 4 none (104 + n + 1) [sf_rv p0, .int p1] (jb_Mo_readPlain R p0 p1) (fun _ => none) := by
  refine sf_Ok.of (env := [some (sf_rv p0), some (.int p1), none, none]) (plainFor_of_name (by decide)) [false, false] (fun G => ⟨pk_r, pk_i, trivial⟩) (Nat.le_of_ble_eq_true rfl) rfl (fun X => ?_)
  unfold jb_Mo_readPlain
  refine fp_iconst (v := (1 : Int32)) dd_Mo_readPlain_0 (by decide) (fr_pc (pc' := 1) rfl ?_)
  refine fp_istore_n (i := 2) dd_Mo_readPlain_1 rfl (Nat.le_of_ble_eq_true rfl) (fun _ => c1_i rfl) (fr_to (pc' := 2) (env' := [some (sf_rv p0), some (.int p1), some (.int (1 : Int32)), none]) (stk' := []) rfl rfl rfl ?_)
  refine fr_to (pc' := 2) (env' := [some (sf_rv p0), some (.int p1), some (.int (1 : Int32)), none]) (stk' := []) rfl rfl rfl ?_
  refine fr_bnd (l1 := (fun (e4 : (Unit)) => sf_p 16 [some (sf_rv p0), some (.int p1), none, none] [])) (fr_loop (Lb := (fun (b1 : (Int32)) => sf_p 2 [some (sf_rv p0), some (.int p1), some (.int b1), none] [])) (fun b1 => ?_) _ _) (fun e4 => ?_)
  · refine fp_iload_n (i := 2) (x := b1) dd_Mo_readPlain_2 rfl rfl (fr_pc (pc' := 3) rfl ?_)
    refine fr_if_eq (tgt := 16) dd_Mo_readPlain_3 rfl (fun _ => ?_) (fun _ => ?_)
    · refine fr_wk [true, true, false, false] ?_
      exact fr_ret rfl
    · refine fr_pc (pc' := 6) rfl ?_
      refine fp_aload_n (i := 0) (r := p0) dd_Mo_readPlain_6 rfl rfl (fr_pc (pc' := 7) rfl ?_)
      refine fp_bipush (v := (6 : Int32)) dd_Mo_readPlain_7 (by decide) (fr_pc (pc' := 9) rfl ?_)
      refine fr_callV (stk := []) (As := [.int (6 : Int32)]) cl_11 (ok_Mo_takes0 p0 (6 : Int32)) mt_Mo_takes0 rfl rfl sw_1355 sw_1357 sp_38 (by dsimp only [sf_deep]; omega) (Nat.le_of_ble_eq_true rfl) dd_Mo_readPlain_9 (fun x3 => fr_to (pc' := 12) (env' := [some (sf_rv p0), some (.int p1), some (.int b1), none]) (stk' := [.int x3]) rfl rfl rfl ?_)
      refine fp_istore_n (i := 2) dd_Mo_readPlain_12 rfl (Nat.le_of_ble_eq_true rfl) (fun _ => c1_i rfl) (fr_to (pc' := 13) (env' := [some (sf_rv p0), some (.int p1), some (.int x3), none]) (stk' := []) rfl rfl rfl ?_)
      refine fp_goto (tgt := 2) dd_Mo_readPlain_13 rfl ?_
      exact fr_ret rfl
  · refine fp_aload_n (i := 0) (r := p0) dd_Mo_readPlain_16 rfl rfl (fr_pc (pc' := 17) rfl ?_)
    refine fr_callV (stk := []) (As := []) cl_11 (ok_Mo_fine p0) mt_Mo_fine rfl rfl sw_1359 sw_1361 sp_39 (by dsimp only [sf_deep]; omega) (Nat.le_of_ble_eq_true rfl) dd_Mo_readPlain_17 (fun x5 => fr_to (pc' := 20) (env' := [some (sf_rv p0), some (.int p1), none, none]) (stk' := [.int x5]) rfl rfl rfl ?_)
    refine fr_if_ne (tgt := 24) dd_Mo_readPlain_20 rfl (fun _ => ?_) (fun _ => ?_)
    · refine fr_pc (pc' := 23) rfl ?_
      exact fr_vret rfl rfl dd_Mo_readPlain_23
    · refine fp_aload_n (i := 0) (r := p0) dd_Mo_readPlain_24 rfl rfl (fr_pc (pc' := 25) rfl ?_)
      refine fr_gR cl_11 15 (by decide) rfl sw_1087 dd_Mo_readPlain_25 (fun x7 => fr_pc (pc' := 28) rfl ?_)
      refine fp_aload_n (i := 0) (r := p0) dd_Mo_readPlain_28 rfl rfl (fr_pc (pc' := 29) rfl ?_)
      refine fr_gI cl_11 19 (by decide) rfl sw_1091 dd_Mo_readPlain_29 (fun x8 => fr_pc (pc' := 32) rfl ?_)
      refine fr_aI0 dd_Mo_readPlain_32 (fun x9 => fr_pc (pc' := 33) rfl ?_)
      refine fp_istore_n (i := 3) dd_Mo_readPlain_33 rfl (Nat.le_of_ble_eq_true rfl) (fun _ => c1_n rfl) (fr_to (pc' := 34) (env' := [some (sf_rv p0), some (.int p1), none, some (.int x9)]) (stk' := []) rfl rfl rfl ?_)
      refine fp_iload_n (i := 3) (x := x9) dd_Mo_readPlain_34 rfl rfl (fr_pc (pc' := 35) rfl ?_)
      refine fp_bipush (v := (40 : Int32)) dd_Mo_readPlain_35 (by decide) (fr_pc (pc' := 37) rfl ?_)
      refine fr_callS (stk := [.int x9]) (ok_Mo_sign (40 : Int32)) mt_Mo_sign rfl rfl sw_1375 sw_1376 (by dsimp only [sf_deep]; omega) (Nat.le_of_ble_eq_true rfl) dd_Mo_readPlain_37 (fun x10 => fr_to (pc' := 40) (env' := [some (sf_rv p0), some (.int p1), none, some (.int x9)]) (stk' := [.int x10, .int x9]) rfl rfl rfl ?_)
      refine fr_icmp_ne (tgt := 90) dd_Mo_readPlain_40 rfl (fun _ => ?_) (fun _ => ?_)
      · refine fr_pc (pc' := 43) rfl ?_
        refine fp_iload_n (i := 1) (x := p1) dd_Mo_readPlain_43 rfl rfl (fr_pc (pc' := 44) rfl ?_)
        refine fp_bipush (v := (8 : Int32)) dd_Mo_readPlain_44 (by decide) (fr_pc (pc' := 46) rfl ?_)
        refine fr_bnd (l1 := (fun (v14 : (Unit)) => sf_p 53 [some (sf_rv p0), some (.int p1), none, some (.int x9)] [])) ?_ (fun v14 => ?_)
        · refine fr_icmp_ne (tgt := 53) dd_Mo_readPlain_46 rfl (fun _ => ?_) (fun _ => ?_)
          · refine fr_pc (pc' := 49) rfl ?_
            refine fp_aload_n (i := 0) (r := p0) dd_Mo_readPlain_49 rfl rfl (fr_pc (pc' := 50) rfl ?_)
            refine fr_callV (stk := []) (As := []) cl_11 (ok_Mo_faults p0) mt_Mo_faults rfl rfl sw_1378 sw_1380 sp_43 (by dsimp only [sf_deep]; omega) (Nat.le_of_ble_eq_true rfl) dd_Mo_readPlain_50 (fun u13 => fr_to (pc' := 53) (env' := [some (sf_rv p0), some (.int p1), none, some (.int x9)]) (stk' := []) rfl rfl rfl ?_)
            exact fr_ret rfl
          · exact fr_ret rfl
        · refine fp_aload_n (i := 0) (r := p0) dd_Mo_readPlain_53 rfl rfl (fr_pc (pc' := 54) rfl ?_)
          refine fr_callV (stk := []) (As := []) cl_11 (ok_Mo_fine p0) mt_Mo_fine rfl rfl sw_1359 sw_1361 sp_39 (by dsimp only [sf_deep]; omega) (Nat.le_of_ble_eq_true rfl) dd_Mo_readPlain_54 (fun x15 => fr_to (pc' := 57) (env' := [some (sf_rv p0), some (.int p1), none, some (.int x9)]) (stk' := [.int x15]) rfl rfl rfl ?_)
          refine fr_if_ne (tgt := 61) dd_Mo_readPlain_57 rfl (fun _ => ?_) (fun _ => ?_)
          · refine fr_pc (pc' := 60) rfl ?_
            exact fr_vret rfl rfl dd_Mo_readPlain_60
          · refine fp_aload_n (i := 0) (r := p0) dd_Mo_readPlain_61 rfl rfl (fr_pc (pc' := 62) rfl ?_)
            refine fp_dup_r dd_Mo_readPlain_62 (fr_pc (pc' := 63) rfl ?_)
            refine fr_gI cl_11 19 (by decide) rfl sw_1091 dd_Mo_readPlain_63 (fun x17 => fr_pc (pc' := 66) rfl ?_)
            refine fp_iconst (v := (1 : Int32)) dd_Mo_readPlain_66 (by decide) (fr_pc (pc' := 67) rfl ?_)
            refine fp_iadd dd_Mo_readPlain_67 (fr_pc (pc' := 68) rfl ?_)
            refine fr_pI cl_11 19 (by decide) rfl sw_1091 rfl ⟨rfl, rfl⟩ dd_Mo_readPlain_68 (fr_pc (pc' := 71) rfl ?_)
            refine fp_aload_n (i := 0) (r := p0) dd_Mo_readPlain_71 rfl rfl (fr_pc (pc' := 72) rfl ?_)
            refine fp_iload_n (i := 1) (x := p1) dd_Mo_readPlain_72 rfl rfl (fr_pc (pc' := 73) rfl ?_)
            refine fp_iconst (v := (1 : Int32)) dd_Mo_readPlain_73 (by decide) (fr_pc (pc' := 74) rfl ?_)
            refine fp_iadd dd_Mo_readPlain_74 (fr_pc (pc' := 75) rfl ?_)
            refine fr_callV (stk := []) (As := [.int (p1 + (1 : Int32))]) cl_11 (hR_Mo_readTest p0 (p1 + (1 : Int32))) mt_Mo_readTest rfl rfl sw_1394 sw_1396 sp_47 (by dsimp only [sf_deep]; omega) (Nat.le_of_ble_eq_true rfl) dd_Mo_readPlain_75 (fun u18 => fr_to (pc' := 78) (env' := [some (sf_rv p0), some (.int p1), none, some (.int x9)]) (stk' := []) rfl rfl rfl ?_)
            refine fp_aload_n (i := 0) (r := p0) dd_Mo_readPlain_78 rfl rfl (fr_pc (pc' := 79) rfl ?_)
            refine fp_bipush (v := (41 : Int32)) dd_Mo_readPlain_79 (by decide) (fr_pc (pc' := 81) rfl ?_)
            refine fr_callS (stk := [sf_rv p0]) (ok_Mo_sign (41 : Int32)) mt_Mo_sign rfl rfl sw_1375 sw_1376 (by dsimp only [sf_deep]; omega) (Nat.le_of_ble_eq_true rfl) dd_Mo_readPlain_81 (fun x19 => fr_to (pc' := 84) (env' := [some (sf_rv p0), some (.int p1), none, some (.int x9)]) (stk' := [.int x19, sf_rv p0]) rfl rfl rfl ?_)
            refine fr_callV (stk := []) (As := [.int x19]) cl_11 (ok_Mo_must p0 x19) mt_Mo_must rfl rfl sw_1382 sw_1384 sp_44 (by dsimp only [sf_deep]; omega) (Nat.le_of_ble_eq_true rfl) dd_Mo_readPlain_84 (fun u20 => fr_to (pc' := 87) (env' := [some (sf_rv p0), some (.int p1), none, some (.int x9)]) (stk' := []) rfl rfl rfl ?_)
            refine fp_goto (tgt := 133) dd_Mo_readPlain_87 rfl ?_
            exact fr_vret rfl rfl dd_Mo_readPlain_133
      · refine fp_aload_n (i := 0) (r := p0) dd_Mo_readPlain_90 rfl rfl (fr_pc (pc' := 91) rfl ?_)
        refine fp_iload_n (i := 1) (x := p1) dd_Mo_readPlain_91 rfl rfl (fr_pc (pc' := 92) rfl ?_)
        refine fr_callV (stk := []) (As := [.int p1]) cl_11 (ok_Mo_readSum sf_deep p0 p1) mt_Mo_readSum rfl rfl sw_1363 sw_1365 sp_40 (by dsimp only [sf_deep]; omega) (Nat.le_of_ble_eq_true rfl) dd_Mo_readPlain_92 (fun u21 => fr_to (pc' := 95) (env' := [some (sf_rv p0), some (.int p1), none, some (.int x9)]) (stk' := []) rfl rfl rfl ?_)
        refine fp_aload_n (i := 0) (r := p0) dd_Mo_readPlain_95 rfl rfl (fr_pc (pc' := 96) rfl ?_)
        refine fp_bipush (v := (60 : Int32)) dd_Mo_readPlain_96 (by decide) (fr_pc (pc' := 98) rfl ?_)
        refine fr_callS (stk := [sf_rv p0]) (ok_Mo_sign (60 : Int32)) mt_Mo_sign rfl rfl sw_1375 sw_1376 (by dsimp only [sf_deep]; omega) (Nat.le_of_ble_eq_true rfl) dd_Mo_readPlain_98 (fun x22 => fr_to (pc' := 101) (env' := [some (sf_rv p0), some (.int p1), none, some (.int x9)]) (stk' := [.int x22, sf_rv p0]) rfl rfl rfl ?_)
        refine fr_callV (stk := []) (As := [.int x22]) cl_11 (ok_Mo_takes0 p0 x22) mt_Mo_takes0 rfl rfl sw_1355 sw_1357 sp_38 (by dsimp only [sf_deep]; omega) (Nat.le_of_ble_eq_true rfl) dd_Mo_readPlain_101 (fun x23 => fr_to (pc' := 104) (env' := [some (sf_rv p0), some (.int p1), none, some (.int x9)]) (stk' := [.int x23]) rfl rfl rfl ?_)
        refine fr_bnd (l1 := (fun (v30 : (Unit)) => sf_p 128 [some (sf_rv p0), some (.int p1), none, some (.int x9)] [])) ?_ (fun v30 => ?_)
        · refine fr_if_ne (tgt := 128) dd_Mo_readPlain_104 rfl (fun _ => ?_) (fun _ => ?_)
          · refine fr_pc (pc' := 107) rfl ?_
            refine fp_aload_n (i := 0) (r := p0) dd_Mo_readPlain_107 rfl rfl (fr_pc (pc' := 108) rfl ?_)
            refine fp_bipush (v := (62 : Int32)) dd_Mo_readPlain_108 (by decide) (fr_pc (pc' := 110) rfl ?_)
            refine fr_callS (stk := [sf_rv p0]) (ok_Mo_sign (62 : Int32)) mt_Mo_sign rfl rfl sw_1375 sw_1376 (by dsimp only [sf_deep]; omega) (Nat.le_of_ble_eq_true rfl) dd_Mo_readPlain_110 (fun x25 => fr_to (pc' := 113) (env' := [some (sf_rv p0), some (.int p1), none, some (.int x9)]) (stk' := [.int x25, sf_rv p0]) rfl rfl rfl ?_)
            refine fr_callV (stk := []) (As := [.int x25]) cl_11 (ok_Mo_takes0 p0 x25) mt_Mo_takes0 rfl rfl sw_1355 sw_1357 sp_38 (by dsimp only [sf_deep]; omega) (Nat.le_of_ble_eq_true rfl) dd_Mo_readPlain_113 (fun x26 => fr_to (pc' := 116) (env' := [some (sf_rv p0), some (.int p1), none, some (.int x9)]) (stk' := [.int x26]) rfl rfl rfl ?_)
            refine fr_if_ne (tgt := 128) dd_Mo_readPlain_116 rfl (fun _ => ?_) (fun _ => ?_)
            · refine fr_pc (pc' := 119) rfl ?_
              refine fp_aload_n (i := 0) (r := p0) dd_Mo_readPlain_119 rfl rfl (fr_pc (pc' := 120) rfl ?_)
              refine fp_bipush (v := (61 : Int32)) dd_Mo_readPlain_120 (by decide) (fr_pc (pc' := 122) rfl ?_)
              refine fr_callS (stk := [sf_rv p0]) (ok_Mo_sign (61 : Int32)) mt_Mo_sign rfl rfl sw_1375 sw_1376 (by dsimp only [sf_deep]; omega) (Nat.le_of_ble_eq_true rfl) dd_Mo_readPlain_122 (fun x28 => fr_to (pc' := 125) (env' := [some (sf_rv p0), some (.int p1), none, some (.int x9)]) (stk' := [.int x28, sf_rv p0]) rfl rfl rfl ?_)
              refine fr_callV (stk := []) (As := [.int x28]) cl_11 (ok_Mo_must p0 x28) mt_Mo_must rfl rfl sw_1382 sw_1384 sp_44 (by dsimp only [sf_deep]; omega) (Nat.le_of_ble_eq_true rfl) dd_Mo_readPlain_125 (fun u29 => fr_to (pc' := 128) (env' := [some (sf_rv p0), some (.int p1), none, some (.int x9)]) (stk' := []) rfl rfl rfl ?_)
              exact fr_ret rfl
            · exact fr_ret rfl
          · exact fr_ret rfl
        · refine fp_aload_n (i := 0) (r := p0) dd_Mo_readPlain_128 rfl rfl (fr_pc (pc' := 129) rfl ?_)
          refine fp_iload_n (i := 1) (x := p1) dd_Mo_readPlain_129 rfl rfl (fr_pc (pc' := 130) rfl ?_)
          refine fr_callV (stk := []) (As := [.int p1]) cl_11 (ok_Mo_readSum sf_deep p0 p1) mt_Mo_readSum rfl rfl sw_1363 sw_1365 sp_40 (by dsimp only [sf_deep]; omega) (Nat.le_of_ble_eq_true rfl) dd_Mo_readPlain_130 (fun u31 => fr_to (pc' := 133) (env' := [some (sf_rv p0), some (.int p1), none, some (.int x9)]) (stk' := []) rfl rfl rfl ?_)
          exact fr_vret rfl rfl dd_Mo_readPlain_133
def jx_G3 : Nat → Nat → Option Nat → Int32 → sf_M (Unit)
  | 0, _, _, _ => sf_nil
  | n + 1, t, a0, a1 => if t = 0 then jb_Mo_readTest (jx_G3 n) a0 a1 else if t = 1 then jb_Mo_readBoth (jx_G3 n) a0 a1 else jb_Mo_readPlain (jx_G3 n) a0 a1
theorem okG_3 : ∀ (n : Nat) (a0 : Option Nat) (a1 : Int32), (sf_Ok ({ cls := "SplitFaresModel", name := "readTest", desc := "(I)V" } : Jvm.MethodName) prog_13_method_47_code 2 none (104 + n) [sf_rv a0, .int a1] (jx_G3 n 0 a0 a1) (fun _ => none)) ∧ (sf_Ok ({ cls := "SplitFaresModel", name := "readBoth", desc := "(I)V" } : Jvm.MethodName) prog_13_method_48_code 2 none (104 + n) [sf_rv a0, .int a1] (jx_G3 n 1 a0 a1) (fun _ => none)) ∧ (sf_Ok ({ cls := "SplitFaresModel", name := "readPlain", desc := "(I)V" } : Jvm.MethodName) prog_13_method_49_code 4 none (104 + n) [sf_rv a0, .int a1] (jx_G3 n 2 a0 a1) (fun _ => none))
  | 0, _, _ => ⟨sf_Ok.nil, sf_Ok.nil, sf_Ok.nil⟩
  | n + 1, a0, a1 => ⟨okb_Mo_readTest n (jx_G3 n) (fun b0 b1 => (okG_3 n b0 b1).2.1) a0 a1, okb_Mo_readBoth n (jx_G3 n) (fun b0 b1 => (okG_3 n b0 b1).2.2) a0 a1, okb_Mo_readPlain n (jx_G3 n) (fun b0 b1 => (okG_3 n b0 b1).1) a0 a1⟩
theorem ok_Mo_readTest (n : Nat) (a0 : Option Nat) (a1 : Int32) : sf_Ok ({ cls := "SplitFaresModel", name := "readTest", desc := "(I)V" } : Jvm.MethodName) prog_13_method_47_code 2 none (104 + n) [sf_rv a0, .int a1] (jx_G3 n 0 a0 a1) (fun _ => none) := (okG_3 n a0 a1).1
theorem ok_Mo_readBoth (n : Nat) (a0 : Option Nat) (a1 : Int32) : sf_Ok ({ cls := "SplitFaresModel", name := "readBoth", desc := "(I)V" } : Jvm.MethodName) prog_13_method_48_code 2 none (104 + n) [sf_rv a0, .int a1] (jx_G3 n 1 a0 a1) (fun _ => none) := (okG_3 n a0 a1).2.1
theorem ok_Mo_readPlain (n : Nat) (a0 : Option Nat) (a1 : Int32) : sf_Ok ({ cls := "SplitFaresModel", name := "readPlain", desc := "(I)V" } : Jvm.MethodName) prog_13_method_49_code 4 none (104 + n) [sf_rv a0, .int a1] (jx_G3 n 2 a0 a1) (fun _ => none) := (okG_3 n a0 a1).2.2
theorem mt_Mo_readClause : sf_Mt ({ cls := "SplitFaresModel", name := "readClause", desc := "()V" } : Jvm.MethodName) prog_13_method_44_code 1 none 0 := ⟨sw_1409, sw_12, ⟨by decide, by decide, by decide +kernel⟩, by decide⟩
theorem dd_Mo_readClause_0 : decode prog_13_method_44_code 0 = .ok (.aload_n 0, 1) := by decide +kernel
theorem dd_Mo_readClause_1 : decode prog_13_method_44_code 1 = .ok (.iconst 1, 1) := by decide +kernel
theorem dd_Mo_readClause_2 : decode prog_13_method_44_code 2 = .ok (.invokevirtual 185, 3) := by decide +kernel
theorem dd_Mo_readClause_5 : decode prog_13_method_44_code 5 = .ok (.ifCond .eq 11, 3) := by decide +kernel
theorem dd_Mo_readClause_8 : decode prog_13_method_44_code 8 = .ok (.aload_n 0, 1) := by decide +kernel
theorem dd_Mo_readClause_9 : decode prog_13_method_44_code 9 = .ok (.iconst 0, 1) := by decide +kernel
theorem dd_Mo_readClause_10 : decode prog_13_method_44_code 10 = .ok (.invokevirtual 194, 3) := by decide +kernel
theorem dd_Mo_readClause_13 : decode prog_13_method_44_code 13 = .ok (.goto 8, 3) := by decide +kernel
theorem dd_Mo_readClause_16 : decode prog_13_method_44_code 16 = .ok (.aload_n 0, 1) := by decide +kernel
theorem dd_Mo_readClause_17 : decode prog_13_method_44_code 17 = .ok (.iconst 2, 1) := by decide +kernel
theorem dd_Mo_readClause_18 : decode prog_13_method_44_code 18 = .ok (.invokevirtual 198, 3) := by decide +kernel
theorem dd_Mo_readClause_21 : decode prog_13_method_44_code 21 = .ok (.aload_n 0, 1) := by decide +kernel
theorem dd_Mo_readClause_22 : decode prog_13_method_44_code 22 = .ok (.iconst 3, 1) := by decide +kernel
theorem dd_Mo_readClause_23 : decode prog_13_method_44_code 23 = .ok (.invokevirtual 185, 3) := by decide +kernel
theorem dd_Mo_readClause_26 : decode prog_13_method_44_code 26 = .ok (.ifCond .eq 8, 3) := by decide +kernel
theorem dd_Mo_readClause_29 : decode prog_13_method_44_code 29 = .ok (.aload_n 0, 1) := by decide +kernel
theorem dd_Mo_readClause_30 : decode prog_13_method_44_code 30 = .ok (.iconst 0, 1) := by decide +kernel
theorem dd_Mo_readClause_31 : decode prog_13_method_44_code 31 = .ok (.invokevirtual 201, 3) := by decide +kernel
theorem dd_Mo_readClause_34 : decode prog_13_method_44_code 34 = .ok (.return_, 1) := by decide +kernel
def jx_Mo_readClause (p0 : Option Nat) : sf_M (Unit) :=
  sf_bnd (sf_rc 11 p0 (jx_Mo_takes0 p0 (1 : Int32))) fun x1 =>
  sf_bnd (α := (Unit)) (
  if x1 = 0 then (
  sf_bnd (sf_rc 11 p0 (jx_Mo_must p0 (2 : Int32))) fun _ =>
  sf_ret ()
  ) else (
  sf_bnd (sf_rc 11 p0 (jx_G2 sf_deep 0 p0 (0 : Int32))) fun _ =>
  sf_ret ()
  )
  ) (fun v5 =>
  sf_bnd (sf_rc 11 p0 (jx_Mo_takes0 p0 (3 : Int32))) fun x6 =>
  if x6 = 0 then (
  sf_ret ()
  ) else (
  sf_bnd (sf_rc 11 p0 (jx_G3 sf_deep 0 p0 (0 : Int32))) fun _ =>
  sf_ret ()
  )
  )
set_option maxRecDepth 20000 in
set_option maxHeartbeats 4000000 in
theorem ok_Mo_readClause (p0 : Option Nat) : sf_Ok ({ cls := "SplitFaresModel", name := "readClause", desc := "()V" } : Jvm.MethodName) prog_13_method_44_code 1 none 205 [sf_rv p0] (jx_Mo_readClause p0) (fun _ => none) := by
  refine sf_Ok.of (env := [some (sf_rv p0)]) (plainFor_of_name (by decide)) [false] (fun G => ⟨pk_r, trivial⟩) (Nat.le_of_ble_eq_true rfl) rfl (fun X => ?_)
  unfold jx_Mo_readClause
  refine fp_aload_n (i := 0) (r := p0) dd_Mo_readClause_0 rfl rfl (fr_pc (pc' := 1) rfl ?_)
  refine fp_iconst (v := (1 : Int32)) dd_Mo_readClause_1 (by decide) (fr_pc (pc' := 2) rfl ?_)
  refine fr_callV (stk := []) (As := [.int (1 : Int32)]) cl_11 (ok_Mo_takes0 p0 (1 : Int32)) mt_Mo_takes0 rfl rfl sw_1355 sw_1357 sp_38 (by decide) (Nat.le_of_ble_eq_true rfl) dd_Mo_readClause_2 (fun x1 => fr_to (pc' := 5) (env' := [some (sf_rv p0)]) (stk' := [.int x1]) rfl rfl rfl ?_)
  refine fr_bnd (l1 := (fun (v5 : (Unit)) => sf_p 21 [some (sf_rv p0)] [])) ?_ (fun v5 => ?_)
  · refine fr_if_eq (tgt := 16) dd_Mo_readClause_5 rfl (fun _ => ?_) (fun _ => ?_)
    · refine fp_aload_n (i := 0) (r := p0) dd_Mo_readClause_16 rfl rfl (fr_pc (pc' := 17) rfl ?_)
      refine fp_iconst (v := (2 : Int32)) dd_Mo_readClause_17 (by decide) (fr_pc (pc' := 18) rfl ?_)
      refine fr_callV (stk := []) (As := [.int (2 : Int32)]) cl_11 (ok_Mo_must p0 (2 : Int32)) mt_Mo_must rfl rfl sw_1382 sw_1384 sp_44 (by decide) (Nat.le_of_ble_eq_true rfl) dd_Mo_readClause_18 (fun u3 => fr_to (pc' := 21) (env' := [some (sf_rv p0)]) (stk' := []) rfl rfl rfl ?_)
      exact fr_ret rfl
    · refine fr_pc (pc' := 8) rfl ?_
      refine fp_aload_n (i := 0) (r := p0) dd_Mo_readClause_8 rfl rfl (fr_pc (pc' := 9) rfl ?_)
      refine fp_iconst (v := (0 : Int32)) dd_Mo_readClause_9 (by decide) (fr_pc (pc' := 10) rfl ?_)
      refine fr_callV (stk := []) (As := [.int (0 : Int32)]) cl_11 (ok_Mo_readSum sf_deep p0 (0 : Int32)) mt_Mo_readSum rfl rfl sw_1363 sw_1365 sp_40 (by decide) (Nat.le_of_ble_eq_true rfl) dd_Mo_readClause_10 (fun u4 => fr_to (pc' := 13) (env' := [some (sf_rv p0)]) (stk' := []) rfl rfl rfl ?_)
      refine fp_goto (tgt := 21) dd_Mo_readClause_13 rfl ?_
      exact fr_ret rfl
  · refine fp_aload_n (i := 0) (r := p0) dd_Mo_readClause_21 rfl rfl (fr_pc (pc' := 22) rfl ?_)
    refine fp_iconst (v := (3 : Int32)) dd_Mo_readClause_22 (by decide) (fr_pc (pc' := 23) rfl ?_)
    refine fr_callV (stk := []) (As := [.int (3 : Int32)]) cl_11 (ok_Mo_takes0 p0 (3 : Int32)) mt_Mo_takes0 rfl rfl sw_1355 sw_1357 sp_38 (by decide) (Nat.le_of_ble_eq_true rfl) dd_Mo_readClause_23 (fun x6 => fr_to (pc' := 26) (env' := [some (sf_rv p0)]) (stk' := [.int x6]) rfl rfl rfl ?_)
    refine fr_if_eq (tgt := 34) dd_Mo_readClause_26 rfl (fun _ => ?_) (fun _ => ?_)
    · exact fr_vret rfl rfl dd_Mo_readClause_34
    · refine fr_pc (pc' := 29) rfl ?_
      refine fp_aload_n (i := 0) (r := p0) dd_Mo_readClause_29 rfl rfl (fr_pc (pc' := 30) rfl ?_)
      refine fp_iconst (v := (0 : Int32)) dd_Mo_readClause_30 (by decide) (fr_pc (pc' := 31) rfl ?_)
      refine fr_callV (stk := []) (As := [.int (0 : Int32)]) cl_11 (ok_Mo_readTest sf_deep p0 (0 : Int32)) mt_Mo_readTest rfl rfl sw_1394 sw_1396 sp_47 (by decide) (Nat.le_of_ble_eq_true rfl) dd_Mo_readClause_31 (fun u8 => fr_to (pc' := 34) (env' := [some (sf_rv p0)]) (stk' := []) rfl rfl rfl ?_)
      exact fr_vret rfl rfl dd_Mo_readClause_34
