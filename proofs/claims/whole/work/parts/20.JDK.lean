/-! JDK: its methods as plain functions, and that the bytecode runs them (printed by program). -/
theorem mt_Math_abs : sf_Mt ({ cls := "java/lang/Math", name := "abs", desc := "(I)I" } : Jvm.MethodName) prog_15_method_59_code 1 (some .int) 1 := ⟨sw_417, sw_14, ⟨by decide, by decide, by decide +kernel⟩, by decide⟩
theorem dd_Math_abs_0 : decode prog_15_method_59_code 0 = .ok (.iload_n 0, 1) := by decide +kernel
theorem dd_Math_abs_1 : decode prog_15_method_59_code 1 = .ok (.ifCond .ge 8, 3) := by decide +kernel
theorem dd_Math_abs_4 : decode prog_15_method_59_code 4 = .ok (.iload_n 0, 1) := by decide +kernel
theorem dd_Math_abs_5 : decode prog_15_method_59_code 5 = .ok (.ineg, 1) := by decide +kernel
theorem dd_Math_abs_6 : decode prog_15_method_59_code 6 = .ok (.goto 4, 3) := by decide +kernel
theorem dd_Math_abs_9 : decode prog_15_method_59_code 9 = .ok (.iload_n 0, 1) := by decide +kernel
theorem dd_Math_abs_10 : decode prog_15_method_59_code 10 = .ok (.ireturn, 1) := by decide +kernel
def jx_Math_abs (p0 : Int32) : sf_M (Int32) :=
  if 0 ≤ p0 then (
  sf_ret p0
  ) else (
  sf_ret (-p0)
  )
set_option maxRecDepth 20000 in
set_option maxHeartbeats 4000000 in
theorem ok_Math_abs (p0 : Int32) : sf_Ok ({ cls := "java/lang/Math", name := "abs", desc := "(I)I" } : Jvm.MethodName) prog_15_method_59_code 1 (some .int) 0 [.int p0] (jx_Math_abs p0) (fun r => some (.int r)) := by
  refine sf_Ok.of (env := [some (.int p0)]) (by decide +kernel) [false] (fun G => ⟨pk_i, trivial⟩) (Nat.le_of_ble_eq_true rfl) rfl (fun X => ?_)
  unfold jx_Math_abs
  refine fp_iload_n (i := 0) (x := p0) dd_Math_abs_0 rfl rfl (fr_pc (pc' := 1) rfl ?_)
  refine fr_if_ge (tgt := 9) dd_Math_abs_1 rfl (fun _ => ?_) (fun _ => ?_)
  · refine fp_iload_n (i := 0) (x := p0) dd_Math_abs_9 rfl rfl (fr_pc (pc' := 10) rfl ?_)
    exact fr_iret (v := p0) rfl rfl dd_Math_abs_10
  · refine fr_pc (pc' := 4) rfl ?_
    refine fp_iload_n (i := 0) (x := p0) dd_Math_abs_4 rfl rfl (fr_pc (pc' := 5) rfl ?_)
    refine fp_ineg dd_Math_abs_5 (fr_pc (pc' := 6) rfl ?_)
    refine fp_goto (tgt := 10) dd_Math_abs_6 rfl ?_
    exact fr_iret (v := (-p0)) rfl rfl dd_Math_abs_10
theorem mt_Math_min : sf_Mt ({ cls := "java/lang/Math", name := "min", desc := "(II)I" } : Jvm.MethodName) prog_15_method_69_code 2 (some .int) 2 := ⟨sw_433, sw_14, ⟨by decide, by decide, by decide +kernel⟩, by decide⟩
theorem dd_Math_min_0 : decode prog_15_method_69_code 0 = .ok (.iload_n 0, 1) := by decide +kernel
theorem dd_Math_min_1 : decode prog_15_method_69_code 1 = .ok (.iload_n 1, 1) := by decide +kernel
theorem dd_Math_min_2 : decode prog_15_method_69_code 2 = .ok (.if_icmp .gt 7, 3) := by decide +kernel
theorem dd_Math_min_5 : decode prog_15_method_69_code 5 = .ok (.iload_n 0, 1) := by decide +kernel
theorem dd_Math_min_6 : decode prog_15_method_69_code 6 = .ok (.goto 4, 3) := by decide +kernel
theorem dd_Math_min_9 : decode prog_15_method_69_code 9 = .ok (.iload_n 1, 1) := by decide +kernel
theorem dd_Math_min_10 : decode prog_15_method_69_code 10 = .ok (.ireturn, 1) := by decide +kernel
def jx_Math_min (p0 : Int32) (p1 : Int32) : sf_M (Int32) :=
  if p1 < p0 then (
  sf_ret p1
  ) else (
  sf_ret p0
  )
set_option maxRecDepth 20000 in
set_option maxHeartbeats 4000000 in
theorem ok_Math_min (p0 : Int32) (p1 : Int32) : sf_Ok ({ cls := "java/lang/Math", name := "min", desc := "(II)I" } : Jvm.MethodName) prog_15_method_69_code 2 (some .int) 0 [.int p0, .int p1] (jx_Math_min p0 p1) (fun r => some (.int r)) := by
  refine sf_Ok.of (env := [some (.int p0), some (.int p1)]) (by decide +kernel) [false, false] (fun G => ⟨pk_i, pk_i, trivial⟩) (Nat.le_of_ble_eq_true rfl) rfl (fun X => ?_)
  unfold jx_Math_min
  refine fp_iload_n (i := 0) (x := p0) dd_Math_min_0 rfl rfl (fr_pc (pc' := 1) rfl ?_)
  refine fp_iload_n (i := 1) (x := p1) dd_Math_min_1 rfl rfl (fr_pc (pc' := 2) rfl ?_)
  refine fr_icmp_gt (tgt := 9) dd_Math_min_2 rfl (fun _ => ?_) (fun _ => ?_)
  · refine fp_iload_n (i := 1) (x := p1) dd_Math_min_9 rfl rfl (fr_pc (pc' := 10) rfl ?_)
    exact fr_iret (v := p1) rfl rfl dd_Math_min_10
  · refine fr_pc (pc' := 5) rfl ?_
    refine fp_iload_n (i := 0) (x := p0) dd_Math_min_5 rfl rfl (fr_pc (pc' := 6) rfl ?_)
    refine fp_goto (tgt := 10) dd_Math_min_6 rfl ?_
    exact fr_iret (v := p0) rfl rfl dd_Math_min_10
theorem mt_Math_max : sf_Mt ({ cls := "java/lang/Math", name := "max", desc := "(II)I" } : Jvm.MethodName) prog_15_method_65_code 2 (some .int) 2 := ⟨sw_449, sw_14, ⟨by decide, by decide, by decide +kernel⟩, by decide⟩
theorem dd_Math_max_0 : decode prog_15_method_65_code 0 = .ok (.iload_n 0, 1) := by decide +kernel
theorem dd_Math_max_1 : decode prog_15_method_65_code 1 = .ok (.iload_n 1, 1) := by decide +kernel
theorem dd_Math_max_2 : decode prog_15_method_65_code 2 = .ok (.if_icmp .lt 7, 3) := by decide +kernel
theorem dd_Math_max_5 : decode prog_15_method_65_code 5 = .ok (.iload_n 0, 1) := by decide +kernel
theorem dd_Math_max_6 : decode prog_15_method_65_code 6 = .ok (.goto 4, 3) := by decide +kernel
theorem dd_Math_max_9 : decode prog_15_method_65_code 9 = .ok (.iload_n 1, 1) := by decide +kernel
theorem dd_Math_max_10 : decode prog_15_method_65_code 10 = .ok (.ireturn, 1) := by decide +kernel
def jx_Math_max (p0 : Int32) (p1 : Int32) : sf_M (Int32) :=
  if p0 < p1 then (
  sf_ret p1
  ) else (
  sf_ret p0
  )
set_option maxRecDepth 20000 in
set_option maxHeartbeats 4000000 in
theorem ok_Math_max (p0 : Int32) (p1 : Int32) : sf_Ok ({ cls := "java/lang/Math", name := "max", desc := "(II)I" } : Jvm.MethodName) prog_15_method_65_code 2 (some .int) 0 [.int p0, .int p1] (jx_Math_max p0 p1) (fun r => some (.int r)) := by
  refine sf_Ok.of (env := [some (.int p0), some (.int p1)]) (by decide +kernel) [false, false] (fun G => ⟨pk_i, pk_i, trivial⟩) (Nat.le_of_ble_eq_true rfl) rfl (fun X => ?_)
  unfold jx_Math_max
  refine fp_iload_n (i := 0) (x := p0) dd_Math_max_0 rfl rfl (fr_pc (pc' := 1) rfl ?_)
  refine fp_iload_n (i := 1) (x := p1) dd_Math_max_1 rfl rfl (fr_pc (pc' := 2) rfl ?_)
  refine fr_icmp_lt (tgt := 9) dd_Math_max_2 rfl (fun _ => ?_) (fun _ => ?_)
  · refine fp_iload_n (i := 1) (x := p1) dd_Math_max_9 rfl rfl (fr_pc (pc' := 10) rfl ?_)
    exact fr_iret (v := p1) rfl rfl dd_Math_max_10
  · refine fr_pc (pc' := 5) rfl ?_
    refine fp_iload_n (i := 0) (x := p0) dd_Math_max_5 rfl rfl (fr_pc (pc' := 6) rfl ?_)
    refine fp_goto (tgt := 10) dd_Math_max_6 rfl ?_
    exact fr_iret (v := p0) rfl rfl dd_Math_max_10
theorem mt_Math_floorMod : sf_Mt ({ cls := "java/lang/Math", name := "floorMod", desc := "(II)I" } : Jvm.MethodName) prog_15_method_50_code 3 (some .int) 2 := ⟨sw_786, sw_14, ⟨by decide, by decide, by decide +kernel⟩, by decide⟩
theorem dd_Math_floorMod_0 : decode prog_15_method_50_code 0 = .ok (.iload_n 0, 1) := by decide +kernel
theorem dd_Math_floorMod_1 : decode prog_15_method_50_code 1 = .ok (.iload_n 1, 1) := by decide +kernel
theorem dd_Math_floorMod_2 : decode prog_15_method_50_code 2 = .ok (.irem, 1) := by decide +kernel
theorem dd_Math_floorMod_3 : decode prog_15_method_50_code 3 = .ok (.istore_n 2, 1) := by decide +kernel
theorem dd_Math_floorMod_4 : decode prog_15_method_50_code 4 = .ok (.iload_n 0, 1) := by decide +kernel
theorem dd_Math_floorMod_5 : decode prog_15_method_50_code 5 = .ok (.iload_n 1, 1) := by decide +kernel
theorem dd_Math_floorMod_6 : decode prog_15_method_50_code 6 = .ok (.ixor, 1) := by decide +kernel
theorem dd_Math_floorMod_7 : decode prog_15_method_50_code 7 = .ok (.ifCond .ge 11, 3) := by decide +kernel
theorem dd_Math_floorMod_10 : decode prog_15_method_50_code 10 = .ok (.iload_n 2, 1) := by decide +kernel
theorem dd_Math_floorMod_11 : decode prog_15_method_50_code 11 = .ok (.ifCond .eq 7, 3) := by decide +kernel
theorem dd_Math_floorMod_14 : decode prog_15_method_50_code 14 = .ok (.iload_n 2, 1) := by decide +kernel
theorem dd_Math_floorMod_15 : decode prog_15_method_50_code 15 = .ok (.iload_n 1, 1) := by decide +kernel
theorem dd_Math_floorMod_16 : decode prog_15_method_50_code 16 = .ok (.iadd, 1) := by decide +kernel
theorem dd_Math_floorMod_17 : decode prog_15_method_50_code 17 = .ok (.ireturn, 1) := by decide +kernel
theorem dd_Math_floorMod_18 : decode prog_15_method_50_code 18 = .ok (.iload_n 2, 1) := by decide +kernel
theorem dd_Math_floorMod_19 : decode prog_15_method_50_code 19 = .ok (.ireturn, 1) := by decide +kernel
def jx_Math_floorMod (p0 : Int32) (p1 : Int32) : sf_M (Int32) :=
  sf_bnd (sf_rmI p0 p1) fun x1 =>
  if 0 ≤ (p0 ^^^ p1) then (
  sf_ret x1
  ) else (
  if x1 = 0 then (
  sf_ret x1
  ) else (
  sf_ret (x1 + p1)
  )
  )
set_option maxRecDepth 20000 in
set_option maxHeartbeats 4000000 in
theorem ok_Math_floorMod (p0 : Int32) (p1 : Int32) : sf_Ok ({ cls := "java/lang/Math", name := "floorMod", desc := "(II)I" } : Jvm.MethodName) prog_15_method_50_code 3 (some .int) 0 [.int p0, .int p1] (jx_Math_floorMod p0 p1) (fun r => some (.int r)) := by
  refine sf_Ok.of (env := [some (.int p0), some (.int p1), none]) (by decide +kernel) [false, false] (fun G => ⟨pk_i, pk_i, trivial⟩) (Nat.le_of_ble_eq_true rfl) rfl (fun X => ?_)
  unfold jx_Math_floorMod
  refine fp_iload_n (i := 0) (x := p0) dd_Math_floorMod_0 rfl rfl (fr_pc (pc' := 1) rfl ?_)
  refine fp_iload_n (i := 1) (x := p1) dd_Math_floorMod_1 rfl rfl (fr_pc (pc' := 2) rfl ?_)
  refine fr_rmI dd_Math_floorMod_2 (fun x1 => fr_pc (pc' := 3) rfl ?_)
  refine fp_istore_n (i := 2) dd_Math_floorMod_3 rfl (Nat.le_of_ble_eq_true rfl) (fun _ => c1_i rfl) (fr_to (pc' := 4) (env' := [some (.int p0), some (.int p1), some (.int x1)]) (stk' := []) rfl rfl rfl ?_)
  refine fp_iload_n (i := 0) (x := p0) dd_Math_floorMod_4 rfl rfl (fr_pc (pc' := 5) rfl ?_)
  refine fp_iload_n (i := 1) (x := p1) dd_Math_floorMod_5 rfl rfl (fr_pc (pc' := 6) rfl ?_)
  refine fp_ixor dd_Math_floorMod_6 (fr_pc (pc' := 7) rfl ?_)
  refine fr_if_ge (tgt := 18) dd_Math_floorMod_7 rfl (fun _ => ?_) (fun _ => ?_)
  · refine fp_iload_n (i := 2) (x := x1) dd_Math_floorMod_18 rfl rfl (fr_pc (pc' := 19) rfl ?_)
    exact fr_iret (v := x1) rfl rfl dd_Math_floorMod_19
  · refine fr_pc (pc' := 10) rfl ?_
    refine fp_iload_n (i := 2) (x := x1) dd_Math_floorMod_10 rfl rfl (fr_pc (pc' := 11) rfl ?_)
    refine fr_if_eq (tgt := 18) dd_Math_floorMod_11 rfl (fun _ => ?_) (fun _ => ?_)
    · refine fp_iload_n (i := 2) (x := x1) dd_Math_floorMod_18 rfl rfl (fr_pc (pc' := 19) rfl ?_)
      exact fr_iret (v := x1) rfl rfl dd_Math_floorMod_19
    · refine fr_pc (pc' := 14) rfl ?_
      refine fp_iload_n (i := 2) (x := x1) dd_Math_floorMod_14 rfl rfl (fr_pc (pc' := 15) rfl ?_)
      refine fp_iload_n (i := 1) (x := p1) dd_Math_floorMod_15 rfl rfl (fr_pc (pc' := 16) rfl ?_)
      refine fp_iadd dd_Math_floorMod_16 (fr_pc (pc' := 17) rfl ?_)
      exact fr_iret (v := (x1 + p1)) rfl rfl dd_Math_floorMod_17
theorem mt_Integer_bitCount : sf_Mt ({ cls := "java/lang/Integer", name := "bitCount", desc := "(I)I" } : Jvm.MethodName) prog_14_method_49_code 1 (some .int) 1 := ⟨sw_366, sw_13, ⟨by decide, by decide, by decide +kernel⟩, by decide⟩
theorem dd_Integer_bitCount_0 : decode prog_14_method_49_code 0 = .ok (.iload_n 0, 1) := by decide +kernel
theorem dd_Integer_bitCount_1 : decode prog_14_method_49_code 1 = .ok (.iload_n 0, 1) := by decide +kernel
theorem dd_Integer_bitCount_2 : decode prog_14_method_49_code 2 = .ok (.iconst 1, 1) := by decide +kernel
theorem dd_Integer_bitCount_3 : decode prog_14_method_49_code 3 = .ok (.iushr, 1) := by decide +kernel
theorem dd_Integer_bitCount_4 : decode prog_14_method_49_code 4 = .ok (.ldc_w 265, 3) := by decide +kernel
theorem dd_Integer_bitCount_7 : decode prog_14_method_49_code 7 = .ok (.iand, 1) := by decide +kernel
theorem dd_Integer_bitCount_8 : decode prog_14_method_49_code 8 = .ok (.isub, 1) := by decide +kernel
theorem dd_Integer_bitCount_9 : decode prog_14_method_49_code 9 = .ok (.istore_n 0, 1) := by decide +kernel
theorem dd_Integer_bitCount_10 : decode prog_14_method_49_code 10 = .ok (.iload_n 0, 1) := by decide +kernel
theorem dd_Integer_bitCount_11 : decode prog_14_method_49_code 11 = .ok (.ldc_w 266, 3) := by decide +kernel
theorem dd_Integer_bitCount_14 : decode prog_14_method_49_code 14 = .ok (.iand, 1) := by decide +kernel
theorem dd_Integer_bitCount_15 : decode prog_14_method_49_code 15 = .ok (.iload_n 0, 1) := by decide +kernel
theorem dd_Integer_bitCount_16 : decode prog_14_method_49_code 16 = .ok (.iconst 2, 1) := by decide +kernel
theorem dd_Integer_bitCount_17 : decode prog_14_method_49_code 17 = .ok (.iushr, 1) := by decide +kernel
theorem dd_Integer_bitCount_18 : decode prog_14_method_49_code 18 = .ok (.ldc_w 266, 3) := by decide +kernel
theorem dd_Integer_bitCount_21 : decode prog_14_method_49_code 21 = .ok (.iand, 1) := by decide +kernel
theorem dd_Integer_bitCount_22 : decode prog_14_method_49_code 22 = .ok (.iadd, 1) := by decide +kernel
theorem dd_Integer_bitCount_23 : decode prog_14_method_49_code 23 = .ok (.istore_n 0, 1) := by decide +kernel
theorem dd_Integer_bitCount_24 : decode prog_14_method_49_code 24 = .ok (.iload_n 0, 1) := by decide +kernel
theorem dd_Integer_bitCount_25 : decode prog_14_method_49_code 25 = .ok (.iload_n 0, 1) := by decide +kernel
theorem dd_Integer_bitCount_26 : decode prog_14_method_49_code 26 = .ok (.iconst 4, 1) := by decide +kernel
theorem dd_Integer_bitCount_27 : decode prog_14_method_49_code 27 = .ok (.iushr, 1) := by decide +kernel
theorem dd_Integer_bitCount_28 : decode prog_14_method_49_code 28 = .ok (.iadd, 1) := by decide +kernel
theorem dd_Integer_bitCount_29 : decode prog_14_method_49_code 29 = .ok (.ldc_w 267, 3) := by decide +kernel
theorem dd_Integer_bitCount_32 : decode prog_14_method_49_code 32 = .ok (.iand, 1) := by decide +kernel
theorem dd_Integer_bitCount_33 : decode prog_14_method_49_code 33 = .ok (.istore_n 0, 1) := by decide +kernel
theorem dd_Integer_bitCount_34 : decode prog_14_method_49_code 34 = .ok (.iload_n 0, 1) := by decide +kernel
theorem dd_Integer_bitCount_35 : decode prog_14_method_49_code 35 = .ok (.iload_n 0, 1) := by decide +kernel
theorem dd_Integer_bitCount_36 : decode prog_14_method_49_code 36 = .ok (.bipush 8, 2) := by decide +kernel
theorem dd_Integer_bitCount_38 : decode prog_14_method_49_code 38 = .ok (.iushr, 1) := by decide +kernel
theorem dd_Integer_bitCount_39 : decode prog_14_method_49_code 39 = .ok (.iadd, 1) := by decide +kernel
theorem dd_Integer_bitCount_40 : decode prog_14_method_49_code 40 = .ok (.istore_n 0, 1) := by decide +kernel
theorem dd_Integer_bitCount_41 : decode prog_14_method_49_code 41 = .ok (.iload_n 0, 1) := by decide +kernel
theorem dd_Integer_bitCount_42 : decode prog_14_method_49_code 42 = .ok (.iload_n 0, 1) := by decide +kernel
theorem dd_Integer_bitCount_43 : decode prog_14_method_49_code 43 = .ok (.bipush 16, 2) := by decide +kernel
theorem dd_Integer_bitCount_45 : decode prog_14_method_49_code 45 = .ok (.iushr, 1) := by decide +kernel
theorem dd_Integer_bitCount_46 : decode prog_14_method_49_code 46 = .ok (.iadd, 1) := by decide +kernel
theorem dd_Integer_bitCount_47 : decode prog_14_method_49_code 47 = .ok (.istore_n 0, 1) := by decide +kernel
theorem dd_Integer_bitCount_48 : decode prog_14_method_49_code 48 = .ok (.iload_n 0, 1) := by decide +kernel
theorem dd_Integer_bitCount_49 : decode prog_14_method_49_code 49 = .ok (.bipush 63, 2) := by decide +kernel
theorem dd_Integer_bitCount_51 : decode prog_14_method_49_code 51 = .ok (.iand, 1) := by decide +kernel
theorem dd_Integer_bitCount_52 : decode prog_14_method_49_code 52 = .ok (.ireturn, 1) := by decide +kernel
def jx_Integer_bitCount (p0 : Int32) : sf_M (Int32) :=
  sf_bnd (sf_ret ((p0 - (((p0.toUInt32 >>> ((1 : Int32).toUInt32 &&& Int32.toUInt32 31)).toInt32) &&& (1431655765 : Int32))))) fun y1 =>
  sf_bnd (sf_ret (((y1 &&& (858993459 : Int32)) + (((y1.toUInt32 >>> ((2 : Int32).toUInt32 &&& Int32.toUInt32 31)).toInt32) &&& (858993459 : Int32))))) fun y2 =>
  sf_bnd (sf_ret (((y2 + ((y2.toUInt32 >>> ((4 : Int32).toUInt32 &&& Int32.toUInt32 31)).toInt32)) &&& (252645135 : Int32)))) fun y3 =>
  sf_bnd (sf_ret ((y3 + ((y3.toUInt32 >>> ((8 : Int32).toUInt32 &&& Int32.toUInt32 31)).toInt32)))) fun y4 =>
  sf_bnd (sf_ret ((y4 + ((y4.toUInt32 >>> ((16 : Int32).toUInt32 &&& Int32.toUInt32 31)).toInt32)))) fun y5 =>
  sf_ret (y5 &&& (63 : Int32))
set_option maxRecDepth 20000 in
set_option maxHeartbeats 4000000 in
theorem ok_Integer_bitCount (p0 : Int32) : sf_Ok ({ cls := "java/lang/Integer", name := "bitCount", desc := "(I)I" } : Jvm.MethodName) prog_14_method_49_code 1 (some .int) 0 [.int p0] (jx_Integer_bitCount p0) (fun r => some (.int r)) := by
  refine sf_Ok.of (env := [some (.int p0)]) (by decide +kernel) [false] (fun G => ⟨pk_i, trivial⟩) (Nat.le_of_ble_eq_true rfl) rfl (fun X => ?_)
  unfold jx_Integer_bitCount
  refine fp_iload_n (i := 0) (x := p0) dd_Integer_bitCount_0 rfl rfl (fr_pc (pc' := 1) rfl ?_)
  refine fp_iload_n (i := 0) (x := p0) dd_Integer_bitCount_1 rfl rfl (fr_pc (pc' := 2) rfl ?_)
  refine fp_iconst (v := (1 : Int32)) dd_Integer_bitCount_2 (by decide) (fr_pc (pc' := 3) rfl ?_)
  refine fp_iushr dd_Integer_bitCount_3 (fr_pc (pc' := 4) rfl ?_)
  refine fp_ldcw (v := (1431655765 : Int32)) dd_Integer_bitCount_4 sw_367 (fr_pc (pc' := 7) rfl ?_)
  refine fp_iand dd_Integer_bitCount_7 (fr_pc (pc' := 8) rfl ?_)
  refine fp_isub dd_Integer_bitCount_8 (fr_pc (pc' := 9) rfl ?_)
  refine fr_nistore_n (i := 0) dd_Integer_bitCount_9 rfl (Nat.le_of_ble_eq_true rfl) (fun _ => c1_z) (fun y1 => fr_to (pc' := 10) (env' := [some (.int y1)]) (stk' := []) rfl rfl rfl ?_)
  refine fp_iload_n (i := 0) (x := y1) dd_Integer_bitCount_10 rfl rfl (fr_pc (pc' := 11) rfl ?_)
  refine fp_ldcw (v := (858993459 : Int32)) dd_Integer_bitCount_11 sw_368 (fr_pc (pc' := 14) rfl ?_)
  refine fp_iand dd_Integer_bitCount_14 (fr_pc (pc' := 15) rfl ?_)
  refine fp_iload_n (i := 0) (x := y1) dd_Integer_bitCount_15 rfl rfl (fr_pc (pc' := 16) rfl ?_)
  refine fp_iconst (v := (2 : Int32)) dd_Integer_bitCount_16 (by decide) (fr_pc (pc' := 17) rfl ?_)
  refine fp_iushr dd_Integer_bitCount_17 (fr_pc (pc' := 18) rfl ?_)
  refine fp_ldcw (v := (858993459 : Int32)) dd_Integer_bitCount_18 sw_368 (fr_pc (pc' := 21) rfl ?_)
  refine fp_iand dd_Integer_bitCount_21 (fr_pc (pc' := 22) rfl ?_)
  refine fp_iadd dd_Integer_bitCount_22 (fr_pc (pc' := 23) rfl ?_)
  refine fr_nistore_n (i := 0) dd_Integer_bitCount_23 rfl (Nat.le_of_ble_eq_true rfl) (fun _ => c1_z) (fun y2 => fr_to (pc' := 24) (env' := [some (.int y2)]) (stk' := []) rfl rfl rfl ?_)
  refine fp_iload_n (i := 0) (x := y2) dd_Integer_bitCount_24 rfl rfl (fr_pc (pc' := 25) rfl ?_)
  refine fp_iload_n (i := 0) (x := y2) dd_Integer_bitCount_25 rfl rfl (fr_pc (pc' := 26) rfl ?_)
  refine fp_iconst (v := (4 : Int32)) dd_Integer_bitCount_26 (by decide) (fr_pc (pc' := 27) rfl ?_)
  refine fp_iushr dd_Integer_bitCount_27 (fr_pc (pc' := 28) rfl ?_)
  refine fp_iadd dd_Integer_bitCount_28 (fr_pc (pc' := 29) rfl ?_)
  refine fp_ldcw (v := (252645135 : Int32)) dd_Integer_bitCount_29 sw_369 (fr_pc (pc' := 32) rfl ?_)
  refine fp_iand dd_Integer_bitCount_32 (fr_pc (pc' := 33) rfl ?_)
  refine fr_nistore_n (i := 0) dd_Integer_bitCount_33 rfl (Nat.le_of_ble_eq_true rfl) (fun _ => c1_z) (fun y3 => fr_to (pc' := 34) (env' := [some (.int y3)]) (stk' := []) rfl rfl rfl ?_)
  refine fp_iload_n (i := 0) (x := y3) dd_Integer_bitCount_34 rfl rfl (fr_pc (pc' := 35) rfl ?_)
  refine fp_iload_n (i := 0) (x := y3) dd_Integer_bitCount_35 rfl rfl (fr_pc (pc' := 36) rfl ?_)
  refine fp_bipush (v := (8 : Int32)) dd_Integer_bitCount_36 (by decide) (fr_pc (pc' := 38) rfl ?_)
  refine fp_iushr dd_Integer_bitCount_38 (fr_pc (pc' := 39) rfl ?_)
  refine fp_iadd dd_Integer_bitCount_39 (fr_pc (pc' := 40) rfl ?_)
  refine fr_nistore_n (i := 0) dd_Integer_bitCount_40 rfl (Nat.le_of_ble_eq_true rfl) (fun _ => c1_z) (fun y4 => fr_to (pc' := 41) (env' := [some (.int y4)]) (stk' := []) rfl rfl rfl ?_)
  refine fp_iload_n (i := 0) (x := y4) dd_Integer_bitCount_41 rfl rfl (fr_pc (pc' := 42) rfl ?_)
  refine fp_iload_n (i := 0) (x := y4) dd_Integer_bitCount_42 rfl rfl (fr_pc (pc' := 43) rfl ?_)
  refine fp_bipush (v := (16 : Int32)) dd_Integer_bitCount_43 (by decide) (fr_pc (pc' := 45) rfl ?_)
  refine fp_iushr dd_Integer_bitCount_45 (fr_pc (pc' := 46) rfl ?_)
  refine fp_iadd dd_Integer_bitCount_46 (fr_pc (pc' := 47) rfl ?_)
  refine fr_nistore_n (i := 0) dd_Integer_bitCount_47 rfl (Nat.le_of_ble_eq_true rfl) (fun _ => c1_z) (fun y5 => fr_to (pc' := 48) (env' := [some (.int y5)]) (stk' := []) rfl rfl rfl ?_)
  refine fp_iload_n (i := 0) (x := y5) dd_Integer_bitCount_48 rfl rfl (fr_pc (pc' := 49) rfl ?_)
  refine fp_bipush (v := (63 : Int32)) dd_Integer_bitCount_49 (by decide) (fr_pc (pc' := 51) rfl ?_)
  refine fp_iand dd_Integer_bitCount_51 (fr_pc (pc' := 52) rfl ?_)
  exact fr_iret (v := (y5 &&& (63 : Int32))) rfl rfl dd_Integer_bitCount_52
theorem mt_Arrays_fillI : sf_Mt ({ cls := "java/util/Arrays", name := "fill", desc := "([II)V" } : Jvm.MethodName) prog_20_method_103_code 4 none 2 := ⟨sw_816, sw_20, ⟨by decide, by decide, by decide +kernel⟩, by decide⟩
theorem dd_Arrays_fillI_0 : decode prog_20_method_103_code 0 = .ok (.iconst 0, 1) := by decide +kernel
theorem dd_Arrays_fillI_1 : decode prog_20_method_103_code 1 = .ok (.istore_n 2, 1) := by decide +kernel
theorem dd_Arrays_fillI_2 : decode prog_20_method_103_code 2 = .ok (.aload_n 0, 1) := by decide +kernel
theorem dd_Arrays_fillI_3 : decode prog_20_method_103_code 3 = .ok (.arraylength, 1) := by decide +kernel
theorem dd_Arrays_fillI_4 : decode prog_20_method_103_code 4 = .ok (.istore_n 3, 1) := by decide +kernel
theorem dd_Arrays_fillI_5 : decode prog_20_method_103_code 5 = .ok (.iload_n 2, 1) := by decide +kernel
theorem dd_Arrays_fillI_6 : decode prog_20_method_103_code 6 = .ok (.iload_n 3, 1) := by decide +kernel
theorem dd_Arrays_fillI_7 : decode prog_20_method_103_code 7 = .ok (.if_icmp .ge 13, 3) := by decide +kernel
theorem dd_Arrays_fillI_10 : decode prog_20_method_103_code 10 = .ok (.aload_n 0, 1) := by decide +kernel
theorem dd_Arrays_fillI_11 : decode prog_20_method_103_code 11 = .ok (.iload_n 2, 1) := by decide +kernel
theorem dd_Arrays_fillI_12 : decode prog_20_method_103_code 12 = .ok (.iload_n 1, 1) := by decide +kernel
theorem dd_Arrays_fillI_13 : decode prog_20_method_103_code 13 = .ok (.iastore, 1) := by decide +kernel
theorem dd_Arrays_fillI_14 : decode prog_20_method_103_code 14 = .ok (.iinc 2 1, 3) := by decide +kernel
theorem dd_Arrays_fillI_17 : decode prog_20_method_103_code 17 = .ok (.goto (-12), 3) := by decide +kernel
theorem dd_Arrays_fillI_20 : decode prog_20_method_103_code 20 = .ok (.return_, 1) := by decide +kernel
def jx_Arrays_fillI (p0 : Option Nat) (p1 : Int32) : sf_M (Unit) :=
  sf_bnd (sf_len p0) fun x1 =>
  sf_bnd (sf_loop (β := (Int32)) (γ := (Unit)) (fun b2 =>
  if x1 ≤ b2 then (
  sf_ret (.inr ())
  ) else (
  sf_bnd (sf_sI 0 p0 b2 p1) fun _ =>
  sf_bnd (sf_ret (b2 + (1 : Int32))) fun y4 =>
  sf_ret (.inl y4)
  )
  ) sf_fuel (0 : Int32)) (fun e5 =>
  sf_ret ()
  )
set_option maxRecDepth 20000 in
set_option maxHeartbeats 4000000 in
theorem ok_Arrays_fillI (p0 : Option Nat) (p1 : Int32) : sf_Ok ({ cls := "java/util/Arrays", name := "fill", desc := "([II)V" } : Jvm.MethodName) prog_20_method_103_code 4 none 0 [sf_rv p0, .int p1] (jx_Arrays_fillI p0 p1) (fun _ => none) := by
  refine sf_Ok.of (env := [some (sf_rv p0), some (.int p1), none, none]) (by decide +kernel) [false, false] (fun G => ⟨pk_r, pk_i, trivial⟩) (Nat.le_of_ble_eq_true rfl) rfl (fun X => ?_)
  unfold jx_Arrays_fillI
  refine fp_iconst (v := (0 : Int32)) dd_Arrays_fillI_0 (by decide) (fr_pc (pc' := 1) rfl ?_)
  refine fp_istore_n (i := 2) dd_Arrays_fillI_1 rfl (Nat.le_of_ble_eq_true rfl) (fun _ => c1_i rfl) (fr_to (pc' := 2) (env' := [some (sf_rv p0), some (.int p1), some (.int (0 : Int32)), none]) (stk' := []) rfl rfl rfl ?_)
  refine fp_aload_n (i := 0) (r := p0) dd_Arrays_fillI_2 rfl rfl (fr_pc (pc' := 3) rfl ?_)
  refine fr_len dd_Arrays_fillI_3 (fun x1 => fr_pc (pc' := 4) rfl ?_)
  refine fp_istore_n (i := 3) dd_Arrays_fillI_4 rfl (Nat.le_of_ble_eq_true rfl) (fun _ => c1_i rfl) (fr_to (pc' := 5) (env' := [some (sf_rv p0), some (.int p1), some (.int (0 : Int32)), some (.int x1)]) (stk' := []) rfl rfl rfl ?_)
  refine fr_to (pc' := 5) (env' := [some (sf_rv p0), some (.int p1), some (.int (0 : Int32)), some (.int x1)]) (stk' := []) rfl rfl rfl ?_
  refine fr_bnd (l1 := (fun (e5 : (Unit)) => sf_p 20 [some (sf_rv p0), some (.int p1), none, some (.int x1)] [])) (fr_loop (Lb := (fun (b2 : (Int32)) => sf_p 5 [some (sf_rv p0), some (.int p1), some (.int b2), some (.int x1)] [])) (fun b2 => ?_) _ _) (fun e5 => ?_)
  · refine fp_iload_n (i := 2) (x := b2) dd_Arrays_fillI_5 rfl rfl (fr_pc (pc' := 6) rfl ?_)
    refine fp_iload_n (i := 3) (x := x1) dd_Arrays_fillI_6 rfl rfl (fr_pc (pc' := 7) rfl ?_)
    refine fr_icmp_ge (tgt := 20) dd_Arrays_fillI_7 rfl (fun _ => ?_) (fun _ => ?_)
    · refine fr_wk [true, true, false, true] ?_
      exact fr_ret rfl
    · refine fr_pc (pc' := 10) rfl ?_
      refine fp_aload_n (i := 0) (r := p0) dd_Arrays_fillI_10 rfl rfl (fr_pc (pc' := 11) rfl ?_)
      refine fp_iload_n (i := 2) (x := b2) dd_Arrays_fillI_11 rfl rfl (fr_pc (pc' := 12) rfl ?_)
      refine fp_iload_n (i := 1) (x := p1) dd_Arrays_fillI_12 rfl rfl (fr_pc (pc' := 13) rfl ?_)
      refine fr_sI0 dd_Arrays_fillI_13 (fr_pc (pc' := 14) rfl ?_)
      refine fr_niinc (i := 2) (x := b2) (w := (1 : Int32)) dd_Arrays_fillI_14 rfl (by decide) (Nat.le_of_ble_eq_true rfl) (fun _ => c1_i rfl) (fun y4 => fr_to (pc' := 17) (env' := [some (sf_rv p0), some (.int p1), some (.int y4), some (.int x1)]) (stk' := []) rfl rfl rfl ?_)
      refine fp_goto (tgt := 5) dd_Arrays_fillI_17 rfl ?_
      exact fr_ret rfl
  · exact fr_vret rfl rfl dd_Arrays_fillI_20
theorem mt_Arrays_fillJ : sf_Mt ({ cls := "java/util/Arrays", name := "fill", desc := "([JJ)V" } : Jvm.MethodName) prog_20_method_101_code 5 none 2 := ⟨sw_1014, sw_20, ⟨by decide, by decide, by decide +kernel⟩, by decide⟩
theorem dd_Arrays_fillJ_0 : decode prog_20_method_101_code 0 = .ok (.iconst 0, 1) := by decide +kernel
theorem dd_Arrays_fillJ_1 : decode prog_20_method_101_code 1 = .ok (.istore_n 3, 1) := by decide +kernel
theorem dd_Arrays_fillJ_2 : decode prog_20_method_101_code 2 = .ok (.aload_n 0, 1) := by decide +kernel
theorem dd_Arrays_fillJ_3 : decode prog_20_method_101_code 3 = .ok (.arraylength, 1) := by decide +kernel
theorem dd_Arrays_fillJ_4 : decode prog_20_method_101_code 4 = .ok (.istore 4, 2) := by decide +kernel
theorem dd_Arrays_fillJ_6 : decode prog_20_method_101_code 6 = .ok (.iload_n 3, 1) := by decide +kernel
theorem dd_Arrays_fillJ_7 : decode prog_20_method_101_code 7 = .ok (.iload 4, 2) := by decide +kernel
theorem dd_Arrays_fillJ_9 : decode prog_20_method_101_code 9 = .ok (.if_icmp .ge 13, 3) := by decide +kernel
theorem dd_Arrays_fillJ_12 : decode prog_20_method_101_code 12 = .ok (.aload_n 0, 1) := by decide +kernel
theorem dd_Arrays_fillJ_13 : decode prog_20_method_101_code 13 = .ok (.iload_n 3, 1) := by decide +kernel
theorem dd_Arrays_fillJ_14 : decode prog_20_method_101_code 14 = .ok (.lload_n 1, 1) := by decide +kernel
theorem dd_Arrays_fillJ_15 : decode prog_20_method_101_code 15 = .ok (.lastore, 1) := by decide +kernel
theorem dd_Arrays_fillJ_16 : decode prog_20_method_101_code 16 = .ok (.iinc 3 1, 3) := by decide +kernel
theorem dd_Arrays_fillJ_19 : decode prog_20_method_101_code 19 = .ok (.goto (-13), 3) := by decide +kernel
theorem dd_Arrays_fillJ_22 : decode prog_20_method_101_code 22 = .ok (.return_, 1) := by decide +kernel
def jx_Arrays_fillJ (p0 : Option Nat) (p1 : Int64) : sf_M (Unit) :=
  sf_bnd (sf_len p0) fun x1 =>
  sf_bnd (sf_loop (β := (Int32)) (γ := (Unit)) (fun b2 =>
  if x1 ≤ b2 then (
  sf_ret (.inr ())
  ) else (
  sf_bnd (sf_sL p0 b2 p1) fun _ =>
  sf_bnd (sf_ret (b2 + (1 : Int32))) fun y4 =>
  sf_ret (.inl y4)
  )
  ) sf_fuel (0 : Int32)) (fun e5 =>
  sf_ret ()
  )
set_option maxRecDepth 20000 in
set_option maxHeartbeats 4000000 in
theorem ok_Arrays_fillJ (p0 : Option Nat) (p1 : Int64) : sf_Ok ({ cls := "java/util/Arrays", name := "fill", desc := "([JJ)V" } : Jvm.MethodName) prog_20_method_101_code 5 none 0 [sf_rv p0, .long p1] (jx_Arrays_fillJ p0 p1) (fun _ => none) := by
  refine sf_Ok.of (env := [some (sf_rv p0), some (.long p1), none, none, none]) (by decide +kernel) [false, true] (fun G => ⟨pk_r, pk_l, trivial⟩) (Nat.le_of_ble_eq_true rfl) rfl (fun X => ?_)
  unfold jx_Arrays_fillJ
  refine fp_iconst (v := (0 : Int32)) dd_Arrays_fillJ_0 (by decide) (fr_pc (pc' := 1) rfl ?_)
  refine fp_istore_n (i := 3) dd_Arrays_fillJ_1 rfl (Nat.le_of_ble_eq_true rfl) (fun _ => c1_n rfl) (fr_to (pc' := 2) (env' := [some (sf_rv p0), some (.long p1), none, some (.int (0 : Int32)), none]) (stk' := []) rfl rfl rfl ?_)
  refine fp_aload_n (i := 0) (r := p0) dd_Arrays_fillJ_2 rfl rfl (fr_pc (pc' := 3) rfl ?_)
  refine fr_len dd_Arrays_fillJ_3 (fun x1 => fr_pc (pc' := 4) rfl ?_)
  refine fp_istore (i := 4) dd_Arrays_fillJ_4 (Nat.le_of_ble_eq_true rfl) (fun _ => c1_i rfl) (fr_to (pc' := 6) (env' := [some (sf_rv p0), some (.long p1), none, some (.int (0 : Int32)), some (.int x1)]) (stk' := []) rfl rfl rfl ?_)
  refine fr_to (pc' := 6) (env' := [some (sf_rv p0), some (.long p1), none, some (.int (0 : Int32)), some (.int x1)]) (stk' := []) rfl rfl rfl ?_
  refine fr_bnd (l1 := (fun (e5 : (Unit)) => sf_p 22 [some (sf_rv p0), some (.long p1), none, none, some (.int x1)] [])) (fr_loop (Lb := (fun (b2 : (Int32)) => sf_p 6 [some (sf_rv p0), some (.long p1), none, some (.int b2), some (.int x1)] [])) (fun b2 => ?_) _ _) (fun e5 => ?_)
  · refine fp_iload_n (i := 3) (x := b2) dd_Arrays_fillJ_6 rfl rfl (fr_pc (pc' := 7) rfl ?_)
    refine fp_iload (i := 4) (x := x1) dd_Arrays_fillJ_7 rfl (fr_pc (pc' := 9) rfl ?_)
    refine fr_icmp_ge (tgt := 22) dd_Arrays_fillJ_9 rfl (fun _ => ?_) (fun _ => ?_)
    · refine fr_wk [true, true, false, false, true] ?_
      exact fr_ret rfl
    · refine fr_pc (pc' := 12) rfl ?_
      refine fp_aload_n (i := 0) (r := p0) dd_Arrays_fillJ_12 rfl rfl (fr_pc (pc' := 13) rfl ?_)
      refine fp_iload_n (i := 3) (x := b2) dd_Arrays_fillJ_13 rfl rfl (fr_pc (pc' := 14) rfl ?_)
      refine fp_lload_n (i := 1) (x := p1) dd_Arrays_fillJ_14 rfl rfl (fr_pc (pc' := 15) rfl ?_)
      refine fr_sL dd_Arrays_fillJ_15 (fr_pc (pc' := 16) rfl ?_)
      refine fr_niinc (i := 3) (x := b2) (w := (1 : Int32)) dd_Arrays_fillJ_16 rfl (by decide) (Nat.le_of_ble_eq_true rfl) (fun _ => c1_n rfl) (fun y4 => fr_to (pc' := 19) (env' := [some (sf_rv p0), some (.long p1), none, some (.int y4), some (.int x1)]) (stk' := []) rfl rfl rfl ?_)
      refine fp_goto (tgt := 6) dd_Arrays_fillJ_19 rfl ?_
      exact fr_ret rfl
  · exact fr_vret rfl rfl dd_Arrays_fillJ_22
