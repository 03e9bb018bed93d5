/-! SplitFaresModel: its methods as plain functions, and that the bytecode runs them (printed by program). -/
theorem mt_Mo_thereAndBack : sf_Mt ({ cls := "SplitFaresModel", name := "thereAndBack", desc := "(IIII)I" } : Jvm.MethodName) prog_13_method_99_code 10 (some .int) 4 := ⟨sw_1574, sw_12, ⟨by decide, by decide, by decide +kernel⟩, by decide⟩
theorem dd_Mo_thereAndBack_0 : decode prog_13_method_99_code 0 = .ok (.aload_n 0, 1) := by decide +kernel
theorem dd_Mo_thereAndBack_1 : decode prog_13_method_99_code 1 = .ok (.iload_n 1, 1) := by decide +kernel
theorem dd_Mo_thereAndBack_2 : decode prog_13_method_99_code 2 = .ok (.iload_n 3, 1) := by decide +kernel
theorem dd_Mo_thereAndBack_3 : decode prog_13_method_99_code 3 = .ok (.iload 4, 2) := by decide +kernel
theorem dd_Mo_thereAndBack_5 : decode prog_13_method_99_code 5 = .ok (.invokevirtual 376, 3) := by decide +kernel
theorem dd_Mo_thereAndBack_8 : decode prog_13_method_99_code 8 = .ok (.ifCond .eq 14, 3) := by decide +kernel
theorem dd_Mo_thereAndBack_11 : decode prog_13_method_99_code 11 = .ok (.aload_n 0, 1) := by decide +kernel
theorem dd_Mo_thereAndBack_12 : decode prog_13_method_99_code 12 = .ok (.iload_n 2, 1) := by decide +kernel
theorem dd_Mo_thereAndBack_13 : decode prog_13_method_99_code 13 = .ok (.iload 4, 2) := by decide +kernel
theorem dd_Mo_thereAndBack_15 : decode prog_13_method_99_code 15 = .ok (.iload_n 3, 1) := by decide +kernel
theorem dd_Mo_thereAndBack_16 : decode prog_13_method_99_code 16 = .ok (.invokevirtual 376, 3) := by decide +kernel
theorem dd_Mo_thereAndBack_19 : decode prog_13_method_99_code 19 = .ok (.ifCond .ne 5, 3) := by decide +kernel
theorem dd_Mo_thereAndBack_24 : decode prog_13_method_99_code 24 = .ok (.aload_n 0, 1) := by decide +kernel
theorem dd_Mo_thereAndBack_25 : decode prog_13_method_99_code 25 = .ok (.iload_n 1, 1) := by decide +kernel
theorem dd_Mo_thereAndBack_26 : decode prog_13_method_99_code 26 = .ok (.iload_n 2, 1) := by decide +kernel
theorem dd_Mo_thereAndBack_27 : decode prog_13_method_99_code 27 = .ok (.invokevirtual 394, 3) := by decide +kernel
theorem dd_Mo_thereAndBack_30 : decode prog_13_method_99_code 30 = .ok (.iload_n 3, 1) := by decide +kernel
theorem dd_Mo_thereAndBack_31 : decode prog_13_method_99_code 31 = .ok (.iload 4, 2) := by decide +kernel
theorem dd_Mo_thereAndBack_33 : decode prog_13_method_99_code 33 = .ok (.invokestatic 397, 3) := by decide +kernel
theorem dd_Mo_thereAndBack_36 : decode prog_13_method_99_code 36 = .ok (.aload_n 0, 1) := by decide +kernel
theorem dd_Mo_thereAndBack_37 : decode prog_13_method_99_code 37 = .ok (.getfield 32, 3) := by decide +kernel
theorem dd_Mo_thereAndBack_40 : decode prog_13_method_99_code 40 = .ok (.sipush 195, 3) := by decide +kernel
theorem dd_Mo_thereAndBack_43 : decode prog_13_method_99_code 43 = .ok (.iload_n 1, 1) := by decide +kernel
theorem dd_Mo_thereAndBack_44 : decode prog_13_method_99_code 44 = .ok (.iadd, 1) := by decide +kernel
theorem dd_Mo_thereAndBack_45 : decode prog_13_method_99_code 45 = .ok (.iaload, 1) := by decide +kernel
theorem dd_Mo_thereAndBack_46 : decode prog_13_method_99_code 46 = .ok (.iand, 1) := by decide +kernel
theorem dd_Mo_thereAndBack_47 : decode prog_13_method_99_code 47 = .ok (.istore 5, 2) := by decide +kernel
theorem dd_Mo_thereAndBack_49 : decode prog_13_method_99_code 49 = .ok (.iload_n 3, 1) := by decide +kernel
theorem dd_Mo_thereAndBack_50 : decode prog_13_method_99_code 50 = .ok (.iload 4, 2) := by decide +kernel
theorem dd_Mo_thereAndBack_52 : decode prog_13_method_99_code 52 = .ok (.invokestatic 397, 3) := by decide +kernel
theorem dd_Mo_thereAndBack_55 : decode prog_13_method_99_code 55 = .ok (.aload_n 0, 1) := by decide +kernel
theorem dd_Mo_thereAndBack_56 : decode prog_13_method_99_code 56 = .ok (.getfield 32, 3) := by decide +kernel
theorem dd_Mo_thereAndBack_59 : decode prog_13_method_99_code 59 = .ok (.sipush 195, 3) := by decide +kernel
theorem dd_Mo_thereAndBack_62 : decode prog_13_method_99_code 62 = .ok (.iload_n 2, 1) := by decide +kernel
theorem dd_Mo_thereAndBack_63 : decode prog_13_method_99_code 63 = .ok (.iadd, 1) := by decide +kernel
theorem dd_Mo_thereAndBack_64 : decode prog_13_method_99_code 64 = .ok (.iaload, 1) := by decide +kernel
theorem dd_Mo_thereAndBack_65 : decode prog_13_method_99_code 65 = .ok (.iand, 1) := by decide +kernel
theorem dd_Mo_thereAndBack_66 : decode prog_13_method_99_code 66 = .ok (.istore 6, 2) := by decide +kernel
theorem dd_Mo_thereAndBack_68 : decode prog_13_method_99_code 68 = .ok (.ldc_w 348, 3) := by decide +kernel
theorem dd_Mo_thereAndBack_71 : decode prog_13_method_99_code 71 = .ok (.istore 7, 2) := by decide +kernel
theorem dd_Mo_thereAndBack_73 : decode prog_13_method_99_code 73 = .ok (.iconst 0, 1) := by decide +kernel
theorem dd_Mo_thereAndBack_74 : decode prog_13_method_99_code 74 = .ok (.istore 8, 2) := by decide +kernel
theorem dd_Mo_thereAndBack_76 : decode prog_13_method_99_code 76 = .ok (.iload 8, 2) := by decide +kernel
theorem dd_Mo_thereAndBack_78 : decode prog_13_method_99_code 78 = .ok (.iload 5, 2) := by decide +kernel
theorem dd_Mo_thereAndBack_80 : decode prog_13_method_99_code 80 = .ok (.if_icmp .gt 66, 3) := by decide +kernel
theorem dd_Mo_thereAndBack_83 : decode prog_13_method_99_code 83 = .ok (.iload 8, 2) := by decide +kernel
theorem dd_Mo_thereAndBack_85 : decode prog_13_method_99_code 85 = .ok (.iload 5, 2) := by decide +kernel
theorem dd_Mo_thereAndBack_87 : decode prog_13_method_99_code 87 = .ok (.iconst (-1), 1) := by decide +kernel
theorem dd_Mo_thereAndBack_88 : decode prog_13_method_99_code 88 = .ok (.ixor, 1) := by decide +kernel
theorem dd_Mo_thereAndBack_89 : decode prog_13_method_99_code 89 = .ok (.iand, 1) := by decide +kernel
theorem dd_Mo_thereAndBack_90 : decode prog_13_method_99_code 90 = .ok (.ifCond .eq 6, 3) := by decide +kernel
theorem dd_Mo_thereAndBack_93 : decode prog_13_method_99_code 93 = .ok (.goto 47, 3) := by decide +kernel
theorem dd_Mo_thereAndBack_96 : decode prog_13_method_99_code 96 = .ok (.iconst 0, 1) := by decide +kernel
theorem dd_Mo_thereAndBack_97 : decode prog_13_method_99_code 97 = .ok (.istore 9, 2) := by decide +kernel
theorem dd_Mo_thereAndBack_99 : decode prog_13_method_99_code 99 = .ok (.iload 9, 2) := by decide +kernel
theorem dd_Mo_thereAndBack_101 : decode prog_13_method_99_code 101 = .ok (.iload 6, 2) := by decide +kernel
theorem dd_Mo_thereAndBack_103 : decode prog_13_method_99_code 103 = .ok (.if_icmp .gt 37, 3) := by decide +kernel
theorem dd_Mo_thereAndBack_106 : decode prog_13_method_99_code 106 = .ok (.iload 9, 2) := by decide +kernel
theorem dd_Mo_thereAndBack_108 : decode prog_13_method_99_code 108 = .ok (.iload 6, 2) := by decide +kernel
theorem dd_Mo_thereAndBack_110 : decode prog_13_method_99_code 110 = .ok (.iconst (-1), 1) := by decide +kernel
theorem dd_Mo_thereAndBack_111 : decode prog_13_method_99_code 111 = .ok (.ixor, 1) := by decide +kernel
theorem dd_Mo_thereAndBack_112 : decode prog_13_method_99_code 112 = .ok (.iand, 1) := by decide +kernel
theorem dd_Mo_thereAndBack_113 : decode prog_13_method_99_code 113 = .ok (.ifCond .ne 21, 3) := by decide +kernel
theorem dd_Mo_thereAndBack_116 : decode prog_13_method_99_code 116 = .ok (.iload 7, 2) := by decide +kernel
theorem dd_Mo_thereAndBack_118 : decode prog_13_method_99_code 118 = .ok (.aload_n 0, 1) := by decide +kernel
theorem dd_Mo_thereAndBack_119 : decode prog_13_method_99_code 119 = .ok (.iload 8, 2) := by decide +kernel
theorem dd_Mo_thereAndBack_121 : decode prog_13_method_99_code 121 = .ok (.iload 9, 2) := by decide +kernel
theorem dd_Mo_thereAndBack_123 : decode prog_13_method_99_code 123 = .ok (.iload_n 3, 1) := by decide +kernel
theorem dd_Mo_thereAndBack_124 : decode prog_13_method_99_code 124 = .ok (.iload 4, 2) := by decide +kernel
theorem dd_Mo_thereAndBack_126 : decode prog_13_method_99_code 126 = .ok (.invokevirtual 400, 3) := by decide +kernel
theorem dd_Mo_thereAndBack_129 : decode prog_13_method_99_code 129 = .ok (.invokestatic 355, 3) := by decide +kernel
theorem dd_Mo_thereAndBack_132 : decode prog_13_method_99_code 132 = .ok (.istore 7, 2) := by decide +kernel
theorem dd_Mo_thereAndBack_134 : decode prog_13_method_99_code 134 = .ok (.iinc 9 1, 3) := by decide +kernel
theorem dd_Mo_thereAndBack_137 : decode prog_13_method_99_code 137 = .ok (.goto (-38), 3) := by decide +kernel
theorem dd_Mo_thereAndBack_140 : decode prog_13_method_99_code 140 = .ok (.iinc 8 1, 3) := by decide +kernel
theorem dd_Mo_thereAndBack_143 : decode prog_13_method_99_code 143 = .ok (.goto (-67), 3) := by decide +kernel
theorem dd_Mo_thereAndBack_146 : decode prog_13_method_99_code 146 = .ok (.iload 7, 2) := by decide +kernel
theorem dd_Mo_thereAndBack_148 : decode prog_13_method_99_code 148 = .ok (.ldc_w 348, 3) := by decide +kernel
theorem dd_Mo_thereAndBack_151 : decode prog_13_method_99_code 151 = .ok (.if_icmp .lt 7, 3) := by decide +kernel
theorem dd_Mo_thereAndBack_154 : decode prog_13_method_99_code 154 = .ok (.iconst (-1), 1) := by decide +kernel
theorem dd_Mo_thereAndBack_155 : decode prog_13_method_99_code 155 = .ok (.goto 5, 3) := by decide +kernel
theorem dd_Mo_thereAndBack_158 : decode prog_13_method_99_code 158 = .ok (.iload 7, 2) := by decide +kernel
theorem dd_Mo_thereAndBack_160 : decode prog_13_method_99_code 160 = .ok (.ireturn, 1) := by decide +kernel
theorem dd_Mo_thereAndBack_22 : decode prog_13_method_99_code 22 = .ok (.iconst (-1), 1) := by decide +kernel
theorem dd_Mo_thereAndBack_23 : decode prog_13_method_99_code 23 = .ok (.ireturn, 1) := by decide +kernel
def jx_Mo_thereAndBack (p0 : Option Nat) (p1 : Int32) (p2 : Int32) (p3 : Int32) (p4 : Int32) : sf_M (Int32) :=
  sf_bnd (sf_rc 11 p0 (jx_Mo_canAsk p0 p1 p3 p4)) fun x1 =>
  if x1 = 0 then (
  sf_ret (-1 : Int32)
  ) else (
  sf_bnd (sf_rc 11 p0 (jx_Mo_canAsk p0 p2 p4 p3)) fun x3 =>
  if x3 = 0 then (
  sf_ret (-1 : Int32)
  ) else (
  sf_bnd (sf_rc 11 p0 (jx_Mo_laysBoth p0 p1 p2)) fun _ =>
  sf_bnd (jx_Mo_between p3 p4) fun x6 =>
  sf_bnd (sf_gR 11 2 p0) fun x7 =>
  sf_bnd (sf_aI 0 x7 ((195 : Int32) + p1)) fun x8 =>
  sf_bnd (sf_ret ((x6 &&& x8))) fun y9 =>
  sf_bnd (jx_Mo_between p3 p4) fun x10 =>
  sf_bnd (sf_gR 11 2 p0) fun x11 =>
  sf_bnd (sf_aI 0 x11 ((195 : Int32) + p2)) fun x12 =>
  sf_bnd (sf_ret ((x10 &&& x12))) fun y13 =>
  sf_bnd (sf_loop (β := (Int32 × Int32)) (γ := (Int32)) (fun b14 =>
  if y9 < b14.2 then (
  sf_ret (.inr b14.1)
  ) else (
  if (b14.2 &&& (y9 ^^^ (-1 : Int32))) = 0 then (
  sf_bnd (sf_loop (β := (Int32 × Int32)) (γ := (Int32)) (fun b17 =>
  if y13 < b17.2 then (
  sf_ret (.inr b17.1)
  ) else (
  if (b17.2 &&& (y13 ^^^ (-1 : Int32))) = 0 then (
  sf_bnd (sf_rc 11 p0 (jx_Mo_costsTogether p0 b14.2 b17.2 p3 p4)) fun x20 =>
  sf_bnd (jx_Mo_lesser b17.1 x20) fun x21 =>
  sf_bnd (sf_ret (b17.2 + (1 : Int32))) fun y22 =>
  sf_ret (.inl (x21, y22))
  ) else (
  sf_bnd (sf_ret (b17.2 + (1 : Int32))) fun y23 =>
  sf_ret (.inl (b17.1, y23))
  )
  )
  ) sf_fuel (b14.1, (0 : Int32))) (fun e24 =>
  sf_bnd (sf_ret (b14.2 + (1 : Int32))) fun y25 =>
  sf_ret (.inl (e24, y25))
  )
  ) else (
  sf_bnd (sf_ret (b14.2 + (1 : Int32))) fun y26 =>
  sf_ret (.inl (b14.1, y26))
  )
  )
  ) sf_fuel ((100000000 : Int32), (0 : Int32))) (fun e27 =>
  if e27 < (100000000 : Int32) then (
  sf_ret e27
  ) else (
  sf_ret (-1 : Int32)
  )
  )
  )
  )
set_option maxRecDepth 20000 in
set_option maxHeartbeats 4000000 in
theorem ok_Mo_thereAndBack (p0 : Option Nat) (p1 : Int32) (p2 : Int32) (p3 : Int32) (p4 : Int32) : sf_Ok ({ cls := "SplitFaresModel", name := "thereAndBack", desc := "(IIII)I" } : Jvm.MethodName) prog_13_method_99_code 10 (some .int) 208 [sf_rv p0, .int p1, .int p2, .int p3, .int p4] (jx_Mo_thereAndBack p0 p1 p2 p3 p4) (fun r => some (.int r)) := by
  refine sf_Ok.of (env := [some (sf_rv p0), some (.int p1), some (.int p2), some (.int p3), some (.int p4), none, none, none, none, none]) (plainFor_of_name (by decide)) [false, false, false, false, false] (fun G => ⟨pk_r, pk_i, pk_i, pk_i, pk_i, trivial⟩) (Nat.le_of_ble_eq_true rfl) rfl (fun X => ?_)
  unfold jx_Mo_thereAndBack
  refine fp_aload_n (i := 0) (r := p0) dd_Mo_thereAndBack_0 rfl rfl (fr_pc (pc' := 1) rfl ?_)
  refine fp_iload_n (i := 1) (x := p1) dd_Mo_thereAndBack_1 rfl rfl (fr_pc (pc' := 2) rfl ?_)
  refine fp_iload_n (i := 3) (x := p3) dd_Mo_thereAndBack_2 rfl rfl (fr_pc (pc' := 3) rfl ?_)
  refine fp_iload (i := 4) (x := p4) dd_Mo_thereAndBack_3 rfl (fr_pc (pc' := 5) rfl ?_)
  refine fr_callV (stk := []) (As := [.int p1, .int p3, .int p4]) cl_11 (ok_Mo_canAsk p0 p1 p3 p4) mt_Mo_canAsk rfl rfl sw_1512 sw_1514 sp_70 (by decide) (Nat.le_of_ble_eq_true rfl) dd_Mo_thereAndBack_5 (fun x1 => fr_to (pc' := 8) (env' := [some (sf_rv p0), some (.int p1), some (.int p2), some (.int p3), some (.int p4), none, none, none, none, none]) (stk' := [.int x1]) rfl rfl rfl ?_)
  refine fr_if_eq (tgt := 22) dd_Mo_thereAndBack_8 rfl (fun _ => ?_) (fun _ => ?_)
  · refine fp_iconst (v := (-1 : Int32)) dd_Mo_thereAndBack_22 (by decide) (fr_pc (pc' := 23) rfl ?_)
    exact fr_iret (v := (-1 : Int32)) rfl rfl dd_Mo_thereAndBack_23
  · refine fr_pc (pc' := 11) rfl ?_
    refine fp_aload_n (i := 0) (r := p0) dd_Mo_thereAndBack_11 rfl rfl (fr_pc (pc' := 12) rfl ?_)
    refine fp_iload_n (i := 2) (x := p2) dd_Mo_thereAndBack_12 rfl rfl (fr_pc (pc' := 13) rfl ?_)
    refine fp_iload (i := 4) (x := p4) dd_Mo_thereAndBack_13 rfl (fr_pc (pc' := 15) rfl ?_)
    refine fp_iload_n (i := 3) (x := p3) dd_Mo_thereAndBack_15 rfl rfl (fr_pc (pc' := 16) rfl ?_)
    refine fr_callV (stk := []) (As := [.int p2, .int p4, .int p3]) cl_11 (ok_Mo_canAsk p0 p2 p4 p3) mt_Mo_canAsk rfl rfl sw_1512 sw_1514 sp_70 (by decide) (Nat.le_of_ble_eq_true rfl) dd_Mo_thereAndBack_16 (fun x3 => fr_to (pc' := 19) (env' := [some (sf_rv p0), some (.int p1), some (.int p2), some (.int p3), some (.int p4), none, none, none, none, none]) (stk' := [.int x3]) rfl rfl rfl ?_)
    refine fr_if_ne (tgt := 24) dd_Mo_thereAndBack_19 rfl (fun _ => ?_) (fun _ => ?_)
    · refine fr_pc (pc' := 22) rfl ?_
      refine fp_iconst (v := (-1 : Int32)) dd_Mo_thereAndBack_22 (by decide) (fr_pc (pc' := 23) rfl ?_)
      exact fr_iret (v := (-1 : Int32)) rfl rfl dd_Mo_thereAndBack_23
    · refine fp_aload_n (i := 0) (r := p0) dd_Mo_thereAndBack_24 rfl rfl (fr_pc (pc' := 25) rfl ?_)
      refine fp_iload_n (i := 1) (x := p1) dd_Mo_thereAndBack_25 rfl rfl (fr_pc (pc' := 26) rfl ?_)
      refine fp_iload_n (i := 2) (x := p2) dd_Mo_thereAndBack_26 rfl rfl (fr_pc (pc' := 27) rfl ?_)
      refine fr_callV (stk := []) (As := [.int p1, .int p2]) cl_11 (ok_Mo_laysBoth p0 p1 p2) mt_Mo_laysBoth rfl rfl sw_1575 sw_1577 sp_80 (by decide) (Nat.le_of_ble_eq_true rfl) dd_Mo_thereAndBack_27 (fun u5 => fr_to (pc' := 30) (env' := [some (sf_rv p0), some (.int p1), some (.int p2), some (.int p3), some (.int p4), none, none, none, none, none]) (stk' := []) rfl rfl rfl ?_)
      refine fp_iload_n (i := 3) (x := p3) dd_Mo_thereAndBack_30 rfl rfl (fr_pc (pc' := 31) rfl ?_)
      refine fp_iload (i := 4) (x := p4) dd_Mo_thereAndBack_31 rfl (fr_pc (pc' := 33) rfl ?_)
      refine fr_callS (stk := []) (ok_Mo_between p3 p4) mt_Mo_between rfl rfl sw_1579 sw_1580 (by decide) (Nat.le_of_ble_eq_true rfl) dd_Mo_thereAndBack_33 (fun x6 => fr_to (pc' := 36) (env' := [some (sf_rv p0), some (.int p1), some (.int p2), some (.int p3), some (.int p4), none, none, none, none, none]) (stk' := [.int x6]) rfl rfl rfl ?_)
      refine fp_aload_n (i := 0) (r := p0) dd_Mo_thereAndBack_36 rfl rfl (fr_pc (pc' := 37) rfl ?_)
      refine fr_gR cl_11 2 (by decide) rfl sw_1074 dd_Mo_thereAndBack_37 (fun x7 => fr_pc (pc' := 40) rfl ?_)
      refine fp_sipush (v := (195 : Int32)) dd_Mo_thereAndBack_40 (by decide) (fr_pc (pc' := 43) rfl ?_)
      refine fp_iload_n (i := 1) (x := p1) dd_Mo_thereAndBack_43 rfl rfl (fr_pc (pc' := 44) rfl ?_)
      refine fp_iadd dd_Mo_thereAndBack_44 (fr_pc (pc' := 45) rfl ?_)
      refine fr_aI0 dd_Mo_thereAndBack_45 (fun x8 => fr_pc (pc' := 46) rfl ?_)
      refine fp_iand dd_Mo_thereAndBack_46 (fr_pc (pc' := 47) rfl ?_)
      refine fr_nistore (i := 5) dd_Mo_thereAndBack_47 (Nat.le_of_ble_eq_true rfl) (fun _ => c1_i rfl) (fun y9 => fr_to (pc' := 49) (env' := [some (sf_rv p0), some (.int p1), some (.int p2), some (.int p3), some (.int p4), some (.int y9), none, none, none, none]) (stk' := []) rfl rfl rfl ?_)
      refine fp_iload_n (i := 3) (x := p3) dd_Mo_thereAndBack_49 rfl rfl (fr_pc (pc' := 50) rfl ?_)
      refine fp_iload (i := 4) (x := p4) dd_Mo_thereAndBack_50 rfl (fr_pc (pc' := 52) rfl ?_)
      refine fr_callS (stk := []) (ok_Mo_between p3 p4) mt_Mo_between rfl rfl sw_1579 sw_1580 (by decide) (Nat.le_of_ble_eq_true rfl) dd_Mo_thereAndBack_52 (fun x10 => fr_to (pc' := 55) (env' := [some (sf_rv p0), some (.int p1), some (.int p2), some (.int p3), some (.int p4), some (.int y9), none, none, none, none]) (stk' := [.int x10]) rfl rfl rfl ?_)
      refine fp_aload_n (i := 0) (r := p0) dd_Mo_thereAndBack_55 rfl rfl (fr_pc (pc' := 56) rfl ?_)
      refine fr_gR cl_11 2 (by decide) rfl sw_1074 dd_Mo_thereAndBack_56 (fun x11 => fr_pc (pc' := 59) rfl ?_)
      refine fp_sipush (v := (195 : Int32)) dd_Mo_thereAndBack_59 (by decide) (fr_pc (pc' := 62) rfl ?_)
      refine fp_iload_n (i := 2) (x := p2) dd_Mo_thereAndBack_62 rfl rfl (fr_pc (pc' := 63) rfl ?_)
      refine fp_iadd dd_Mo_thereAndBack_63 (fr_pc (pc' := 64) rfl ?_)
      refine fr_aI0 dd_Mo_thereAndBack_64 (fun x12 => fr_pc (pc' := 65) rfl ?_)
      refine fp_iand dd_Mo_thereAndBack_65 (fr_pc (pc' := 66) rfl ?_)
      refine fr_nistore (i := 6) dd_Mo_thereAndBack_66 (Nat.le_of_ble_eq_true rfl) (fun _ => c1_i rfl) (fun y13 => fr_to (pc' := 68) (env' := [some (sf_rv p0), some (.int p1), some (.int p2), some (.int p3), some (.int p4), some (.int y9), some (.int y13), none, none, none]) (stk' := []) rfl rfl rfl ?_)
      refine fp_ldcw (v := (100000000 : Int32)) dd_Mo_thereAndBack_68 sw_1535 (fr_pc (pc' := 71) rfl ?_)
      refine fp_istore (i := 7) dd_Mo_thereAndBack_71 (Nat.le_of_ble_eq_true rfl) (fun _ => c1_i rfl) (fr_to (pc' := 73) (env' := [some (sf_rv p0), some (.int p1), some (.int p2), some (.int p3), some (.int p4), some (.int y9), some (.int y13), some (.int (100000000 : Int32)), none, none]) (stk' := []) rfl rfl rfl ?_)
      refine fp_iconst (v := (0 : Int32)) dd_Mo_thereAndBack_73 (by decide) (fr_pc (pc' := 74) rfl ?_)
      refine fp_istore (i := 8) dd_Mo_thereAndBack_74 (Nat.le_of_ble_eq_true rfl) (fun _ => c1_i rfl) (fr_to (pc' := 76) (env' := [some (sf_rv p0), some (.int p1), some (.int p2), some (.int p3), some (.int p4), some (.int y9), some (.int y13), some (.int (100000000 : Int32)), some (.int (0 : Int32)), none]) (stk' := []) rfl rfl rfl ?_)
      refine fr_to (pc' := 76) (env' := [some (sf_rv p0), some (.int p1), some (.int p2), some (.int p3), some (.int p4), some (.int y9), some (.int y13), some (.int (100000000 : Int32)), some (.int (0 : Int32)), none]) (stk' := []) rfl rfl rfl ?_
      refine fr_bnd (l1 := (fun (e27 : (Int32)) => sf_p 146 [some (sf_rv p0), some (.int p1), some (.int p2), some (.int p3), some (.int p4), some (.int y9), some (.int y13), some (.int e27), none, none] [])) (fr_loop (Lb := (fun (b14 : (Int32 × Int32)) => sf_p 76 [some (sf_rv p0), some (.int p1), some (.int p2), some (.int p3), some (.int p4), some (.int y9), some (.int y13), some (.int b14.1), some (.int b14.2), none] [])) (fun b14 => ?_) _ _) (fun e27 => ?_)
      · refine fp_iload (i := 8) (x := b14.2) dd_Mo_thereAndBack_76 rfl (fr_pc (pc' := 78) rfl ?_)
        refine fp_iload (i := 5) (x := y9) dd_Mo_thereAndBack_78 rfl (fr_pc (pc' := 80) rfl ?_)
        refine fr_icmp_gt (tgt := 146) dd_Mo_thereAndBack_80 rfl (fun _ => ?_) (fun _ => ?_)
        · refine fr_wk [true, true, true, true, true, true, true, true, false, false] ?_
          exact fr_ret rfl
        · refine fr_pc (pc' := 83) rfl ?_
          refine fp_iload (i := 8) (x := b14.2) dd_Mo_thereAndBack_83 rfl (fr_pc (pc' := 85) rfl ?_)
          refine fp_iload (i := 5) (x := y9) dd_Mo_thereAndBack_85 rfl (fr_pc (pc' := 87) rfl ?_)
          refine fp_iconst (v := (-1 : Int32)) dd_Mo_thereAndBack_87 (by decide) (fr_pc (pc' := 88) rfl ?_)
          refine fp_ixor dd_Mo_thereAndBack_88 (fr_pc (pc' := 89) rfl ?_)
          refine fp_iand dd_Mo_thereAndBack_89 (fr_pc (pc' := 90) rfl ?_)
          refine fr_if_eq (tgt := 96) dd_Mo_thereAndBack_90 rfl (fun _ => ?_) (fun _ => ?_)
          · refine fp_iconst (v := (0 : Int32)) dd_Mo_thereAndBack_96 (by decide) (fr_pc (pc' := 97) rfl ?_)
            refine fp_istore (i := 9) dd_Mo_thereAndBack_97 (Nat.le_of_ble_eq_true rfl) (fun _ => c1_i rfl) (fr_to (pc' := 99) (env' := [some (sf_rv p0), some (.int p1), some (.int p2), some (.int p3), some (.int p4), some (.int y9), some (.int y13), some (.int b14.1), some (.int b14.2), some (.int (0 : Int32))]) (stk' := []) rfl rfl rfl ?_)
            refine fr_to (pc' := 99) (env' := [some (sf_rv p0), some (.int p1), some (.int p2), some (.int p3), some (.int p4), some (.int y9), some (.int y13), some (.int b14.1), some (.int b14.2), some (.int (0 : Int32))]) (stk' := []) rfl rfl rfl ?_
            refine fr_bnd (l1 := (fun (e24 : (Int32)) => sf_p 140 [some (sf_rv p0), some (.int p1), some (.int p2), some (.int p3), some (.int p4), some (.int y9), some (.int y13), some (.int e24), some (.int b14.2), none] [])) (fr_loop (Lb := (fun (b17 : (Int32 × Int32)) => sf_p 99 [some (sf_rv p0), some (.int p1), some (.int p2), some (.int p3), some (.int p4), some (.int y9), some (.int y13), some (.int b17.1), some (.int b14.2), some (.int b17.2)] [])) (fun b17 => ?_) _ _) (fun e24 => ?_)
            · refine fp_iload (i := 9) (x := b17.2) dd_Mo_thereAndBack_99 rfl (fr_pc (pc' := 101) rfl ?_)
              refine fp_iload (i := 6) (x := y13) dd_Mo_thereAndBack_101 rfl (fr_pc (pc' := 103) rfl ?_)
              refine fr_icmp_gt (tgt := 140) dd_Mo_thereAndBack_103 rfl (fun _ => ?_) (fun _ => ?_)
              · refine fr_wk [true, true, true, true, true, true, true, true, true, false] ?_
                exact fr_ret rfl
              · refine fr_pc (pc' := 106) rfl ?_
                refine fp_iload (i := 9) (x := b17.2) dd_Mo_thereAndBack_106 rfl (fr_pc (pc' := 108) rfl ?_)
                refine fp_iload (i := 6) (x := y13) dd_Mo_thereAndBack_108 rfl (fr_pc (pc' := 110) rfl ?_)
                refine fp_iconst (v := (-1 : Int32)) dd_Mo_thereAndBack_110 (by decide) (fr_pc (pc' := 111) rfl ?_)
                refine fp_ixor dd_Mo_thereAndBack_111 (fr_pc (pc' := 112) rfl ?_)
                refine fp_iand dd_Mo_thereAndBack_112 (fr_pc (pc' := 113) rfl ?_)
                refine fr_if_ne (tgt := 134) dd_Mo_thereAndBack_113 rfl (fun _ => ?_) (fun _ => ?_)
                · refine fr_pc (pc' := 116) rfl ?_
                  refine fp_iload (i := 7) (x := b17.1) dd_Mo_thereAndBack_116 rfl (fr_pc (pc' := 118) rfl ?_)
                  refine fp_aload_n (i := 0) (r := p0) dd_Mo_thereAndBack_118 rfl rfl (fr_pc (pc' := 119) rfl ?_)
                  refine fp_iload (i := 8) (x := b14.2) dd_Mo_thereAndBack_119 rfl (fr_pc (pc' := 121) rfl ?_)
                  refine fp_iload (i := 9) (x := b17.2) dd_Mo_thereAndBack_121 rfl (fr_pc (pc' := 123) rfl ?_)
                  refine fp_iload_n (i := 3) (x := p3) dd_Mo_thereAndBack_123 rfl rfl (fr_pc (pc' := 124) rfl ?_)
                  refine fp_iload (i := 4) (x := p4) dd_Mo_thereAndBack_124 rfl (fr_pc (pc' := 126) rfl ?_)
                  refine fr_callV (stk := [.int b17.1]) (As := [.int b14.2, .int b17.2, .int p3, .int p4]) cl_11 (ok_Mo_costsTogether p0 b14.2 b17.2 p3 p4) mt_Mo_costsTogether rfl rfl sw_1585 sw_1587 sp_81 (by decide) (Nat.le_of_ble_eq_true rfl) dd_Mo_thereAndBack_126 (fun x20 => fr_to (pc' := 129) (env' := [some (sf_rv p0), some (.int p1), some (.int p2), some (.int p3), some (.int p4), some (.int y9), some (.int y13), some (.int b17.1), some (.int b14.2), some (.int b17.2)]) (stk' := [.int x20, .int b17.1]) rfl rfl rfl ?_)
                  refine fr_callS (stk := []) (ok_Mo_lesser b17.1 x20) mt_Mo_lesser rfl rfl sw_1540 sw_1541 (by decide) (Nat.le_of_ble_eq_true rfl) dd_Mo_thereAndBack_129 (fun x21 => fr_to (pc' := 132) (env' := [some (sf_rv p0), some (.int p1), some (.int p2), some (.int p3), some (.int p4), some (.int y9), some (.int y13), some (.int b17.1), some (.int b14.2), some (.int b17.2)]) (stk' := [.int x21]) rfl rfl rfl ?_)
                  refine fp_istore (i := 7) dd_Mo_thereAndBack_132 (Nat.le_of_ble_eq_true rfl) (fun _ => c1_i rfl) (fr_to (pc' := 134) (env' := [some (sf_rv p0), some (.int p1), some (.int p2), some (.int p3), some (.int p4), some (.int y9), some (.int y13), some (.int x21), some (.int b14.2), some (.int b17.2)]) (stk' := []) rfl rfl rfl ?_)
                  refine fr_niinc (i := 9) (x := b17.2) (w := (1 : Int32)) dd_Mo_thereAndBack_134 rfl (by decide) (Nat.le_of_ble_eq_true rfl) (fun _ => c1_i rfl) (fun y22 => fr_to (pc' := 137) (env' := [some (sf_rv p0), some (.int p1), some (.int p2), some (.int p3), some (.int p4), some (.int y9), some (.int y13), some (.int x21), some (.int b14.2), some (.int y22)]) (stk' := []) rfl rfl rfl ?_)
                  refine fp_goto (tgt := 99) dd_Mo_thereAndBack_137 rfl ?_
                  exact fr_ret rfl
                · refine fr_niinc (i := 9) (x := b17.2) (w := (1 : Int32)) dd_Mo_thereAndBack_134 rfl (by decide) (Nat.le_of_ble_eq_true rfl) (fun _ => c1_i rfl) (fun y23 => fr_to (pc' := 137) (env' := [some (sf_rv p0), some (.int p1), some (.int p2), some (.int p3), some (.int p4), some (.int y9), some (.int y13), some (.int b17.1), some (.int b14.2), some (.int y23)]) (stk' := []) rfl rfl rfl ?_)
                  refine fp_goto (tgt := 99) dd_Mo_thereAndBack_137 rfl ?_
                  exact fr_ret rfl
            · refine fr_niinc (i := 8) (x := b14.2) (w := (1 : Int32)) dd_Mo_thereAndBack_140 rfl (by decide) (Nat.le_of_ble_eq_true rfl) (fun _ => c1_i rfl) (fun y25 => fr_to (pc' := 143) (env' := [some (sf_rv p0), some (.int p1), some (.int p2), some (.int p3), some (.int p4), some (.int y9), some (.int y13), some (.int e24), some (.int y25), none]) (stk' := []) rfl rfl rfl ?_)
              refine fp_goto (tgt := 76) dd_Mo_thereAndBack_143 rfl ?_
              exact fr_ret rfl
          · refine fr_pc (pc' := 93) rfl ?_
            refine fp_goto (tgt := 140) dd_Mo_thereAndBack_93 rfl ?_
            refine fr_niinc (i := 8) (x := b14.2) (w := (1 : Int32)) dd_Mo_thereAndBack_140 rfl (by decide) (Nat.le_of_ble_eq_true rfl) (fun _ => c1_i rfl) (fun y26 => fr_to (pc' := 143) (env' := [some (sf_rv p0), some (.int p1), some (.int p2), some (.int p3), some (.int p4), some (.int y9), some (.int y13), some (.int b14.1), some (.int y26), none]) (stk' := []) rfl rfl rfl ?_)
            refine fp_goto (tgt := 76) dd_Mo_thereAndBack_143 rfl ?_
            exact fr_ret rfl
      · refine fp_iload (i := 7) (x := e27) dd_Mo_thereAndBack_146 rfl (fr_pc (pc' := 148) rfl ?_)
        refine fp_ldcw (v := (100000000 : Int32)) dd_Mo_thereAndBack_148 sw_1535 (fr_pc (pc' := 151) rfl ?_)
        refine fr_icmp_lt (tgt := 158) dd_Mo_thereAndBack_151 rfl (fun _ => ?_) (fun _ => ?_)
        · refine fp_iload (i := 7) (x := e27) dd_Mo_thereAndBack_158 rfl (fr_pc (pc' := 160) rfl ?_)
          exact fr_iret (v := e27) rfl rfl dd_Mo_thereAndBack_160
        · refine fr_pc (pc' := 154) rfl ?_
          refine fp_iconst (v := (-1 : Int32)) dd_Mo_thereAndBack_154 (by decide) (fr_pc (pc' := 155) rfl ?_)
          refine fp_goto (tgt := 160) dd_Mo_thereAndBack_155 rfl ?_
          exact fr_iret (v := (-1 : Int32)) rfl rfl dd_Mo_thereAndBack_160
theorem mt_Mo_savedOf : sf_Mt ({ cls := "SplitFaresModel", name := "savedOf", desc := "(III)I" } : Jvm.MethodName) prog_13_method_100_code 5 (some .int) 3 := ⟨sw_1599, sw_12, ⟨by decide, by decide, by decide +kernel⟩, by decide⟩
theorem dd_Mo_savedOf_0 : decode prog_13_method_100_code 0 = .ok (.aload_n 0, 1) := by decide +kernel
theorem dd_Mo_savedOf_1 : decode prog_13_method_100_code 1 = .ok (.iload_n 1, 1) := by decide +kernel
theorem dd_Mo_savedOf_2 : decode prog_13_method_100_code 2 = .ok (.iload_n 2, 1) := by decide +kernel
theorem dd_Mo_savedOf_3 : decode prog_13_method_100_code 3 = .ok (.iload_n 3, 1) := by decide +kernel
theorem dd_Mo_savedOf_4 : decode prog_13_method_100_code 4 = .ok (.invokevirtual 379, 3) := by decide +kernel
theorem dd_Mo_savedOf_7 : decode prog_13_method_100_code 7 = .ok (.istore 4, 2) := by decide +kernel
theorem dd_Mo_savedOf_9 : decode prog_13_method_100_code 9 = .ok (.iload 4, 2) := by decide +kernel
theorem dd_Mo_savedOf_11 : decode prog_13_method_100_code 11 = .ok (.iconst (-1), 1) := by decide +kernel
theorem dd_Mo_savedOf_12 : decode prog_13_method_100_code 12 = .ok (.if_icmp .ne 5, 3) := by decide +kernel
theorem dd_Mo_savedOf_15 : decode prog_13_method_100_code 15 = .ok (.iconst (-1), 1) := by decide +kernel
theorem dd_Mo_savedOf_16 : decode prog_13_method_100_code 16 = .ok (.ireturn, 1) := by decide +kernel
theorem dd_Mo_savedOf_17 : decode prog_13_method_100_code 17 = .ok (.aload_n 0, 1) := by decide +kernel
theorem dd_Mo_savedOf_18 : decode prog_13_method_100_code 18 = .ok (.iload_n 1, 1) := by decide +kernel
theorem dd_Mo_savedOf_19 : decode prog_13_method_100_code 19 = .ok (.iconst 0, 1) := by decide +kernel
theorem dd_Mo_savedOf_20 : decode prog_13_method_100_code 20 = .ok (.iload_n 2, 1) := by decide +kernel
theorem dd_Mo_savedOf_21 : decode prog_13_method_100_code 21 = .ok (.iload_n 3, 1) := by decide +kernel
theorem dd_Mo_savedOf_22 : decode prog_13_method_100_code 22 = .ok (.invokevirtual 335, 3) := by decide +kernel
theorem dd_Mo_savedOf_25 : decode prog_13_method_100_code 25 = .ok (.ifCond .eq 7, 3) := by decide +kernel
theorem dd_Mo_savedOf_28 : decode prog_13_method_100_code 28 = .ok (.iconst 0, 1) := by decide +kernel
theorem dd_Mo_savedOf_29 : decode prog_13_method_100_code 29 = .ok (.goto 13, 3) := by decide +kernel
theorem dd_Mo_savedOf_32 : decode prog_13_method_100_code 32 = .ok (.aload_n 0, 1) := by decide +kernel
theorem dd_Mo_savedOf_33 : decode prog_13_method_100_code 33 = .ok (.iconst 0, 1) := by decide +kernel
theorem dd_Mo_savedOf_34 : decode prog_13_method_100_code 34 = .ok (.iload_n 2, 1) := by decide +kernel
theorem dd_Mo_savedOf_35 : decode prog_13_method_100_code 35 = .ok (.iload_n 3, 1) := by decide +kernel
theorem dd_Mo_savedOf_36 : decode prog_13_method_100_code 36 = .ok (.invokevirtual 339, 3) := by decide +kernel
theorem dd_Mo_savedOf_39 : decode prog_13_method_100_code 39 = .ok (.iload 4, 2) := by decide +kernel
theorem dd_Mo_savedOf_41 : decode prog_13_method_100_code 41 = .ok (.isub, 1) := by decide +kernel
theorem dd_Mo_savedOf_42 : decode prog_13_method_100_code 42 = .ok (.ireturn, 1) := by decide +kernel
def jx_Mo_savedOf (p0 : Option Nat) (p1 : Int32) (p2 : Int32) (p3 : Int32) : sf_M (Int32) :=
  sf_bnd (sf_rc 11 p0 (jx_Mo_cheapestOf p0 p1 p2 p3)) fun x1 =>
  if x1 = (-1 : Int32) then (
  sf_ret (-1 : Int32)
  ) else (
  sf_bnd (sf_rc 11 p0 (jx_Mo_barredFrom p0 p1 (0 : Int32) p2 p3)) fun x3 =>
  if x3 = 0 then (
  sf_bnd (sf_rc 11 p0 (jx_Mo_costOf p0 (0 : Int32) p2 p3)) fun x5 =>
  sf_ret (x5 - x1)
  ) else (
  sf_ret (0 : Int32)
  )
  )
set_option maxRecDepth 20000 in
set_option maxHeartbeats 4000000 in
theorem ok_Mo_savedOf (p0 : Option Nat) (p1 : Int32) (p2 : Int32) (p3 : Int32) : sf_Ok ({ cls := "SplitFaresModel", name := "savedOf", desc := "(III)I" } : Jvm.MethodName) prog_13_method_100_code 5 (some .int) 209 [sf_rv p0, .int p1, .int p2, .int p3] (jx_Mo_savedOf p0 p1 p2 p3) (fun r => some (.int r)) := by
  refine sf_Ok.of (env := [some (sf_rv p0), some (.int p1), some (.int p2), some (.int p3), none]) (plainFor_of_name (by decide)) [false, false, false, false] (fun G => ⟨pk_r, pk_i, pk_i, pk_i, trivial⟩) (Nat.le_of_ble_eq_true rfl) rfl (fun X => ?_)
  unfold jx_Mo_savedOf
  refine fp_aload_n (i := 0) (r := p0) dd_Mo_savedOf_0 rfl rfl (fr_pc (pc' := 1) rfl ?_)
  refine fp_iload_n (i := 1) (x := p1) dd_Mo_savedOf_1 rfl rfl (fr_pc (pc' := 2) rfl ?_)
  refine fp_iload_n (i := 2) (x := p2) dd_Mo_savedOf_2 rfl rfl (fr_pc (pc' := 3) rfl ?_)
  refine fp_iload_n (i := 3) (x := p3) dd_Mo_savedOf_3 rfl rfl (fr_pc (pc' := 4) rfl ?_)
  refine fr_callV (stk := []) (As := [.int p1, .int p2, .int p3]) cl_11 (ok_Mo_cheapestOf p0 p1 p2 p3) mt_Mo_cheapestOf rfl rfl sw_1523 sw_1525 sp_72 (by decide) (Nat.le_of_ble_eq_true rfl) dd_Mo_savedOf_4 (fun x1 => fr_to (pc' := 7) (env' := [some (sf_rv p0), some (.int p1), some (.int p2), some (.int p3), none]) (stk' := [.int x1]) rfl rfl rfl ?_)
  refine fp_istore (i := 4) dd_Mo_savedOf_7 (Nat.le_of_ble_eq_true rfl) (fun _ => c1_i rfl) (fr_to (pc' := 9) (env' := [some (sf_rv p0), some (.int p1), some (.int p2), some (.int p3), some (.int x1)]) (stk' := []) rfl rfl rfl ?_)
  refine fp_iload (i := 4) (x := x1) dd_Mo_savedOf_9 rfl (fr_pc (pc' := 11) rfl ?_)
  refine fp_iconst (v := (-1 : Int32)) dd_Mo_savedOf_11 (by decide) (fr_pc (pc' := 12) rfl ?_)
  refine fr_icmp_ne (tgt := 17) dd_Mo_savedOf_12 rfl (fun _ => ?_) (fun _ => ?_)
  · refine fr_pc (pc' := 15) rfl ?_
    refine fp_iconst (v := (-1 : Int32)) dd_Mo_savedOf_15 (by decide) (fr_pc (pc' := 16) rfl ?_)
    exact fr_iret (v := (-1 : Int32)) rfl rfl dd_Mo_savedOf_16
  · refine fp_aload_n (i := 0) (r := p0) dd_Mo_savedOf_17 rfl rfl (fr_pc (pc' := 18) rfl ?_)
    refine fp_iload_n (i := 1) (x := p1) dd_Mo_savedOf_18 rfl rfl (fr_pc (pc' := 19) rfl ?_)
    refine fp_iconst (v := (0 : Int32)) dd_Mo_savedOf_19 (by decide) (fr_pc (pc' := 20) rfl ?_)
    refine fp_iload_n (i := 2) (x := p2) dd_Mo_savedOf_20 rfl rfl (fr_pc (pc' := 21) rfl ?_)
    refine fp_iload_n (i := 3) (x := p3) dd_Mo_savedOf_21 rfl rfl (fr_pc (pc' := 22) rfl ?_)
    refine fr_callV (stk := []) (As := [.int p1, .int (0 : Int32), .int p2, .int p3]) cl_11 (ok_Mo_barredFrom p0 p1 (0 : Int32) p2 p3) mt_Mo_barredFrom rfl rfl sw_1504 sw_1506 sp_69 (by decide) (Nat.le_of_ble_eq_true rfl) dd_Mo_savedOf_22 (fun x3 => fr_to (pc' := 25) (env' := [some (sf_rv p0), some (.int p1), some (.int p2), some (.int p3), some (.int x1)]) (stk' := [.int x3]) rfl rfl rfl ?_)
    refine fr_if_eq (tgt := 32) dd_Mo_savedOf_25 rfl (fun _ => ?_) (fun _ => ?_)
    · refine fp_aload_n (i := 0) (r := p0) dd_Mo_savedOf_32 rfl rfl (fr_pc (pc' := 33) rfl ?_)
      refine fp_iconst (v := (0 : Int32)) dd_Mo_savedOf_33 (by decide) (fr_pc (pc' := 34) rfl ?_)
      refine fp_iload_n (i := 2) (x := p2) dd_Mo_savedOf_34 rfl rfl (fr_pc (pc' := 35) rfl ?_)
      refine fp_iload_n (i := 3) (x := p3) dd_Mo_savedOf_35 rfl rfl (fr_pc (pc' := 36) rfl ?_)
      refine fr_callV (stk := []) (As := [.int (0 : Int32), .int p2, .int p3]) cl_11 (ok_Mo_costOf p0 (0 : Int32) p2 p3) mt_Mo_costOf rfl rfl sw_1430 sw_1432 sp_53 (by decide) (Nat.le_of_ble_eq_true rfl) dd_Mo_savedOf_36 (fun x5 => fr_to (pc' := 39) (env' := [some (sf_rv p0), some (.int p1), some (.int p2), some (.int p3), some (.int x1)]) (stk' := [.int x5]) rfl rfl rfl ?_)
      refine fp_iload (i := 4) (x := x1) dd_Mo_savedOf_39 rfl (fr_pc (pc' := 41) rfl ?_)
      refine fp_isub dd_Mo_savedOf_41 (fr_pc (pc' := 42) rfl ?_)
      exact fr_iret (v := (x5 - x1)) rfl rfl dd_Mo_savedOf_42
    · refine fr_pc (pc' := 28) rfl ?_
      refine fp_iconst (v := (0 : Int32)) dd_Mo_savedOf_28 (by decide) (fr_pc (pc' := 29) rfl ?_)
      refine fp_goto (tgt := 42) dd_Mo_savedOf_29 rfl ?_
      exact fr_iret (v := (0 : Int32)) rfl rfl dd_Mo_savedOf_42
theorem mt_Mo_saved : sf_Mt ({ cls := "SplitFaresModel", name := "saved", desc := "(III)I" } : Jvm.MethodName) prog_13_method_101_code 4 (some .int) 3 := ⟨sw_1595, sw_12, ⟨by decide, by decide, by decide +kernel⟩, by decide⟩
theorem dd_Mo_saved_0 : decode prog_13_method_101_code 0 = .ok (.aload_n 0, 1) := by decide +kernel
theorem dd_Mo_saved_1 : decode prog_13_method_101_code 1 = .ok (.iload_n 1, 1) := by decide +kernel
theorem dd_Mo_saved_2 : decode prog_13_method_101_code 2 = .ok (.iload_n 2, 1) := by decide +kernel
theorem dd_Mo_saved_3 : decode prog_13_method_101_code 3 = .ok (.iload_n 3, 1) := by decide +kernel
theorem dd_Mo_saved_4 : decode prog_13_method_101_code 4 = .ok (.invokevirtual 376, 3) := by decide +kernel
theorem dd_Mo_saved_7 : decode prog_13_method_101_code 7 = .ok (.ifCond .eq 13, 3) := by decide +kernel
theorem dd_Mo_saved_10 : decode prog_13_method_101_code 10 = .ok (.aload_n 0, 1) := by decide +kernel
theorem dd_Mo_saved_11 : decode prog_13_method_101_code 11 = .ok (.iload_n 1, 1) := by decide +kernel
theorem dd_Mo_saved_12 : decode prog_13_method_101_code 12 = .ok (.iload_n 2, 1) := by decide +kernel
theorem dd_Mo_saved_13 : decode prog_13_method_101_code 13 = .ok (.iload_n 3, 1) := by decide +kernel
theorem dd_Mo_saved_14 : decode prog_13_method_101_code 14 = .ok (.invokevirtual 404, 3) := by decide +kernel
theorem dd_Mo_saved_17 : decode prog_13_method_101_code 17 = .ok (.goto 4, 3) := by decide +kernel
theorem dd_Mo_saved_20 : decode prog_13_method_101_code 20 = .ok (.iconst (-1), 1) := by decide +kernel
theorem dd_Mo_saved_21 : decode prog_13_method_101_code 21 = .ok (.ireturn, 1) := by decide +kernel
def jx_Mo_saved (p0 : Option Nat) (p1 : Int32) (p2 : Int32) (p3 : Int32) : sf_M (Int32) :=
  sf_bnd (sf_rc 11 p0 (jx_Mo_canAsk p0 p1 p2 p3)) fun x1 =>
  if x1 = 0 then (
  sf_ret (-1 : Int32)
  ) else (
  sf_bnd (sf_rc 11 p0 (jx_Mo_savedOf p0 p1 p2 p3)) fun x3 =>
  sf_ret x3
  )
set_option maxRecDepth 20000 in
set_option maxHeartbeats 4000000 in
theorem ok_Mo_saved (p0 : Option Nat) (p1 : Int32) (p2 : Int32) (p3 : Int32) : sf_Ok ({ cls := "SplitFaresModel", name := "saved", desc := "(III)I" } : Jvm.MethodName) prog_13_method_101_code 4 (some .int) 210 [sf_rv p0, .int p1, .int p2, .int p3] (jx_Mo_saved p0 p1 p2 p3) (fun r => some (.int r)) := by
  refine sf_Ok.of (env := [some (sf_rv p0), some (.int p1), some (.int p2), some (.int p3)]) (plainFor_of_name (by decide)) [false, false, false, false] (fun G => ⟨pk_r, pk_i, pk_i, pk_i, trivial⟩) (Nat.le_of_ble_eq_true rfl) rfl (fun X => ?_)
  unfold jx_Mo_saved
  refine fp_aload_n (i := 0) (r := p0) dd_Mo_saved_0 rfl rfl (fr_pc (pc' := 1) rfl ?_)
  refine fp_iload_n (i := 1) (x := p1) dd_Mo_saved_1 rfl rfl (fr_pc (pc' := 2) rfl ?_)
  refine fp_iload_n (i := 2) (x := p2) dd_Mo_saved_2 rfl rfl (fr_pc (pc' := 3) rfl ?_)
  refine fp_iload_n (i := 3) (x := p3) dd_Mo_saved_3 rfl rfl (fr_pc (pc' := 4) rfl ?_)
  refine fr_callV (stk := []) (As := [.int p1, .int p2, .int p3]) cl_11 (ok_Mo_canAsk p0 p1 p2 p3) mt_Mo_canAsk rfl rfl sw_1512 sw_1514 sp_70 (by decide) (Nat.le_of_ble_eq_true rfl) dd_Mo_saved_4 (fun x1 => fr_to (pc' := 7) (env' := [some (sf_rv p0), some (.int p1), some (.int p2), some (.int p3)]) (stk' := [.int x1]) rfl rfl rfl ?_)
  refine fr_if_eq (tgt := 20) dd_Mo_saved_7 rfl (fun _ => ?_) (fun _ => ?_)
  · refine fp_iconst (v := (-1 : Int32)) dd_Mo_saved_20 (by decide) (fr_pc (pc' := 21) rfl ?_)
    exact fr_iret (v := (-1 : Int32)) rfl rfl dd_Mo_saved_21
  · refine fr_pc (pc' := 10) rfl ?_
    refine fp_aload_n (i := 0) (r := p0) dd_Mo_saved_10 rfl rfl (fr_pc (pc' := 11) rfl ?_)
    refine fp_iload_n (i := 1) (x := p1) dd_Mo_saved_11 rfl rfl (fr_pc (pc' := 12) rfl ?_)
    refine fp_iload_n (i := 2) (x := p2) dd_Mo_saved_12 rfl rfl (fr_pc (pc' := 13) rfl ?_)
    refine fp_iload_n (i := 3) (x := p3) dd_Mo_saved_13 rfl rfl (fr_pc (pc' := 14) rfl ?_)
    refine fr_callV (stk := []) (As := [.int p1, .int p2, .int p3]) cl_11 (ok_Mo_savedOf p0 p1 p2 p3) mt_Mo_savedOf rfl rfl sw_1596 sw_1598 sp_82 (by decide) (Nat.le_of_ble_eq_true rfl) dd_Mo_saved_14 (fun x3 => fr_to (pc' := 17) (env' := [some (sf_rv p0), some (.int p1), some (.int p2), some (.int p3)]) (stk' := [.int x3]) rfl rfl rfl ?_)
    refine fp_goto (tgt := 21) dd_Mo_saved_17 rfl ?_
    exact fr_iret (v := x3) rfl rfl dd_Mo_saved_21
theorem mt_Mo_bestTrain : sf_Mt ({ cls := "SplitFaresModel", name := "bestTrain", desc := "(II)I" } : Jvm.MethodName) prog_13_method_102_code 7 (some .int) 2 := ⟨sw_1603, sw_12, ⟨by decide, by decide, by decide +kernel⟩, by decide⟩
theorem dd_Mo_bestTrain_0 : decode prog_13_method_102_code 0 = .ok (.iconst (-1), 1) := by decide +kernel
theorem dd_Mo_bestTrain_1 : decode prog_13_method_102_code 1 = .ok (.istore_n 3, 1) := by decide +kernel
theorem dd_Mo_bestTrain_2 : decode prog_13_method_102_code 2 = .ok (.ldc_w 348, 3) := by decide +kernel
theorem dd_Mo_bestTrain_5 : decode prog_13_method_102_code 5 = .ok (.istore 4, 2) := by decide +kernel
theorem dd_Mo_bestTrain_7 : decode prog_13_method_102_code 7 = .ok (.iconst 0, 1) := by decide +kernel
theorem dd_Mo_bestTrain_8 : decode prog_13_method_102_code 8 = .ok (.istore 5, 2) := by decide +kernel
theorem dd_Mo_bestTrain_10 : decode prog_13_method_102_code 10 = .ok (.iload 5, 2) := by decide +kernel
theorem dd_Mo_bestTrain_12 : decode prog_13_method_102_code 12 = .ok (.aload_n 0, 1) := by decide +kernel
theorem dd_Mo_bestTrain_13 : decode prog_13_method_102_code 13 = .ok (.getfield 32, 3) := by decide +kernel
theorem dd_Mo_bestTrain_16 : decode prog_13_method_102_code 16 = .ok (.sipush 227, 3) := by decide +kernel
theorem dd_Mo_bestTrain_19 : decode prog_13_method_102_code 19 = .ok (.iaload, 1) := by decide +kernel
theorem dd_Mo_bestTrain_20 : decode prog_13_method_102_code 20 = .ok (.if_icmp .ge 42, 3) := by decide +kernel
theorem dd_Mo_bestTrain_23 : decode prog_13_method_102_code 23 = .ok (.aload_n 0, 1) := by decide +kernel
theorem dd_Mo_bestTrain_24 : decode prog_13_method_102_code 24 = .ok (.iload 5, 2) := by decide +kernel
theorem dd_Mo_bestTrain_26 : decode prog_13_method_102_code 26 = .ok (.iload_n 1, 1) := by decide +kernel
theorem dd_Mo_bestTrain_27 : decode prog_13_method_102_code 27 = .ok (.iload_n 2, 1) := by decide +kernel
theorem dd_Mo_bestTrain_28 : decode prog_13_method_102_code 28 = .ok (.invokevirtual 379, 3) := by decide +kernel
theorem dd_Mo_bestTrain_31 : decode prog_13_method_102_code 31 = .ok (.istore 6, 2) := by decide +kernel
theorem dd_Mo_bestTrain_33 : decode prog_13_method_102_code 33 = .ok (.iload 6, 2) := by decide +kernel
theorem dd_Mo_bestTrain_35 : decode prog_13_method_102_code 35 = .ok (.iconst (-1), 1) := by decide +kernel
theorem dd_Mo_bestTrain_36 : decode prog_13_method_102_code 36 = .ok (.if_icmp .eq 20, 3) := by decide +kernel
theorem dd_Mo_bestTrain_39 : decode prog_13_method_102_code 39 = .ok (.iload 6, 2) := by decide +kernel
theorem dd_Mo_bestTrain_41 : decode prog_13_method_102_code 41 = .ok (.iload 4, 2) := by decide +kernel
theorem dd_Mo_bestTrain_43 : decode prog_13_method_102_code 43 = .ok (.if_icmp .lt 6, 3) := by decide +kernel
theorem dd_Mo_bestTrain_46 : decode prog_13_method_102_code 46 = .ok (.goto 10, 3) := by decide +kernel
theorem dd_Mo_bestTrain_49 : decode prog_13_method_102_code 49 = .ok (.iload 6, 2) := by decide +kernel
theorem dd_Mo_bestTrain_51 : decode prog_13_method_102_code 51 = .ok (.istore 4, 2) := by decide +kernel
theorem dd_Mo_bestTrain_53 : decode prog_13_method_102_code 53 = .ok (.iload 5, 2) := by decide +kernel
theorem dd_Mo_bestTrain_55 : decode prog_13_method_102_code 55 = .ok (.istore_n 3, 1) := by decide +kernel
theorem dd_Mo_bestTrain_56 : decode prog_13_method_102_code 56 = .ok (.iinc 5 1, 3) := by decide +kernel
theorem dd_Mo_bestTrain_59 : decode prog_13_method_102_code 59 = .ok (.goto (-49), 3) := by decide +kernel
theorem dd_Mo_bestTrain_62 : decode prog_13_method_102_code 62 = .ok (.iload_n 3, 1) := by decide +kernel
theorem dd_Mo_bestTrain_63 : decode prog_13_method_102_code 63 = .ok (.ireturn, 1) := by decide +kernel
def jx_Mo_bestTrain (p0 : Option Nat) (p1 : Int32) (p2 : Int32) : sf_M (Int32) :=
  sf_bnd (sf_loop (β := (Int32 × Int32 × Int32)) (γ := (Int32)) (fun b1 =>
  sf_bnd (sf_gR 11 2 p0) fun x2 =>
  sf_bnd (sf_aI 0 x2 (227 : Int32)) fun x3 =>
  if x3 ≤ b1.2.2 then (
  sf_ret (.inr b1.1)
  ) else (
  sf_bnd (sf_rc 11 p0 (jx_Mo_cheapestOf p0 b1.2.2 p1 p2)) fun x5 =>
  if x5 = (-1 : Int32) then (
  sf_bnd (sf_ret (b1.2.2 + (1 : Int32))) fun y7 =>
  sf_ret (.inl (b1.1, b1.2.1, y7))
  ) else (
  if x5 < b1.2.1 then (
  sf_bnd (sf_ret (b1.2.2 + (1 : Int32))) fun y9 =>
  sf_ret (.inl (b1.2.2, x5, y9))
  ) else (
  sf_bnd (sf_ret (b1.2.2 + (1 : Int32))) fun y10 =>
  sf_ret (.inl (b1.1, b1.2.1, y10))
  )
  )
  )
  ) sf_fuel ((-1 : Int32), (100000000 : Int32), (0 : Int32))) (fun e11 =>
  sf_ret e11
  )
set_option maxRecDepth 20000 in
set_option maxHeartbeats 4000000 in
theorem ok_Mo_bestTrain (p0 : Option Nat) (p1 : Int32) (p2 : Int32) : sf_Ok ({ cls := "SplitFaresModel", name := "bestTrain", desc := "(II)I" } : Jvm.MethodName) prog_13_method_102_code 7 (some .int) 209 [sf_rv p0, .int p1, .int p2] (jx_Mo_bestTrain p0 p1 p2) (fun r => some (.int r)) := by
  refine sf_Ok.of (env := [some (sf_rv p0), some (.int p1), some (.int p2), none, none, none, none]) (plainFor_of_name (by decide)) [false, false, false] (fun G => ⟨pk_r, pk_i, pk_i, trivial⟩) (Nat.le_of_ble_eq_true rfl) rfl (fun X => ?_)
  unfold jx_Mo_bestTrain
  refine fp_iconst (v := (-1 : Int32)) dd_Mo_bestTrain_0 (by decide) (fr_pc (pc' := 1) rfl ?_)
  refine fp_istore_n (i := 3) dd_Mo_bestTrain_1 rfl (Nat.le_of_ble_eq_true rfl) (fun _ => c1_i rfl) (fr_to (pc' := 2) (env' := [some (sf_rv p0), some (.int p1), some (.int p2), some (.int (-1 : Int32)), none, none, none]) (stk' := []) rfl rfl rfl ?_)
  refine fp_ldcw (v := (100000000 : Int32)) dd_Mo_bestTrain_2 sw_1535 (fr_pc (pc' := 5) rfl ?_)
  refine fp_istore (i := 4) dd_Mo_bestTrain_5 (Nat.le_of_ble_eq_true rfl) (fun _ => c1_i rfl) (fr_to (pc' := 7) (env' := [some (sf_rv p0), some (.int p1), some (.int p2), some (.int (-1 : Int32)), some (.int (100000000 : Int32)), none, none]) (stk' := []) rfl rfl rfl ?_)
  refine fp_iconst (v := (0 : Int32)) dd_Mo_bestTrain_7 (by decide) (fr_pc (pc' := 8) rfl ?_)
  refine fp_istore (i := 5) dd_Mo_bestTrain_8 (Nat.le_of_ble_eq_true rfl) (fun _ => c1_i rfl) (fr_to (pc' := 10) (env' := [some (sf_rv p0), some (.int p1), some (.int p2), some (.int (-1 : Int32)), some (.int (100000000 : Int32)), some (.int (0 : Int32)), none]) (stk' := []) rfl rfl rfl ?_)
  refine fr_to (pc' := 10) (env' := [some (sf_rv p0), some (.int p1), some (.int p2), some (.int (-1 : Int32)), some (.int (100000000 : Int32)), some (.int (0 : Int32)), none]) (stk' := []) rfl rfl rfl ?_
  refine fr_bnd (l1 := (fun (e11 : (Int32)) => sf_p 62 [some (sf_rv p0), some (.int p1), some (.int p2), some (.int e11), none, none, none] [])) (fr_loop (Lb := (fun (b1 : (Int32 × Int32 × Int32)) => sf_p 10 [some (sf_rv p0), some (.int p1), some (.int p2), some (.int b1.1), some (.int b1.2.1), some (.int b1.2.2), none] [])) (fun b1 => ?_) _ _) (fun e11 => ?_)
  · refine fp_iload (i := 5) (x := b1.2.2) dd_Mo_bestTrain_10 rfl (fr_pc (pc' := 12) rfl ?_)
    refine fp_aload_n (i := 0) (r := p0) dd_Mo_bestTrain_12 rfl rfl (fr_pc (pc' := 13) rfl ?_)
    refine fr_gR cl_11 2 (by decide) rfl sw_1074 dd_Mo_bestTrain_13 (fun x2 => fr_pc (pc' := 16) rfl ?_)
    refine fp_sipush (v := (227 : Int32)) dd_Mo_bestTrain_16 (by decide) (fr_pc (pc' := 19) rfl ?_)
    refine fr_aI0 dd_Mo_bestTrain_19 (fun x3 => fr_pc (pc' := 20) rfl ?_)
    refine fr_icmp_ge (tgt := 62) dd_Mo_bestTrain_20 rfl (fun _ => ?_) (fun _ => ?_)
    · refine fr_wk [true, true, true, true, false, false, false] ?_
      exact fr_ret rfl
    · refine fr_pc (pc' := 23) rfl ?_
      refine fp_aload_n (i := 0) (r := p0) dd_Mo_bestTrain_23 rfl rfl (fr_pc (pc' := 24) rfl ?_)
      refine fp_iload (i := 5) (x := b1.2.2) dd_Mo_bestTrain_24 rfl (fr_pc (pc' := 26) rfl ?_)
      refine fp_iload_n (i := 1) (x := p1) dd_Mo_bestTrain_26 rfl rfl (fr_pc (pc' := 27) rfl ?_)
      refine fp_iload_n (i := 2) (x := p2) dd_Mo_bestTrain_27 rfl rfl (fr_pc (pc' := 28) rfl ?_)
      refine fr_callV (stk := []) (As := [.int b1.2.2, .int p1, .int p2]) cl_11 (ok_Mo_cheapestOf p0 b1.2.2 p1 p2) mt_Mo_cheapestOf rfl rfl sw_1523 sw_1525 sp_72 (by decide) (Nat.le_of_ble_eq_true rfl) dd_Mo_bestTrain_28 (fun x5 => fr_to (pc' := 31) (env' := [some (sf_rv p0), some (.int p1), some (.int p2), some (.int b1.1), some (.int b1.2.1), some (.int b1.2.2), none]) (stk' := [.int x5]) rfl rfl rfl ?_)
      refine fp_istore (i := 6) dd_Mo_bestTrain_31 (Nat.le_of_ble_eq_true rfl) (fun _ => c1_i rfl) (fr_to (pc' := 33) (env' := [some (sf_rv p0), some (.int p1), some (.int p2), some (.int b1.1), some (.int b1.2.1), some (.int b1.2.2), some (.int x5)]) (stk' := []) rfl rfl rfl ?_)
      refine fp_iload (i := 6) (x := x5) dd_Mo_bestTrain_33 rfl (fr_pc (pc' := 35) rfl ?_)
      refine fp_iconst (v := (-1 : Int32)) dd_Mo_bestTrain_35 (by decide) (fr_pc (pc' := 36) rfl ?_)
      refine fr_icmp_eq (tgt := 56) dd_Mo_bestTrain_36 rfl (fun _ => ?_) (fun _ => ?_)
      · refine fr_niinc (i := 5) (x := b1.2.2) (w := (1 : Int32)) dd_Mo_bestTrain_56 rfl (by decide) (Nat.le_of_ble_eq_true rfl) (fun _ => c1_i rfl) (fun y7 => fr_to (pc' := 59) (env' := [some (sf_rv p0), some (.int p1), some (.int p2), some (.int b1.1), some (.int b1.2.1), some (.int y7), some (.int x5)]) (stk' := []) rfl rfl rfl ?_)
        refine fp_goto (tgt := 10) dd_Mo_bestTrain_59 rfl ?_
        refine fr_wk [true, true, true, true, true, true, false] ?_
        exact fr_ret rfl
      · refine fr_pc (pc' := 39) rfl ?_
        refine fp_iload (i := 6) (x := x5) dd_Mo_bestTrain_39 rfl (fr_pc (pc' := 41) rfl ?_)
        refine fp_iload (i := 4) (x := b1.2.1) dd_Mo_bestTrain_41 rfl (fr_pc (pc' := 43) rfl ?_)
        refine fr_icmp_lt (tgt := 49) dd_Mo_bestTrain_43 rfl (fun _ => ?_) (fun _ => ?_)
        · refine fp_iload (i := 6) (x := x5) dd_Mo_bestTrain_49 rfl (fr_pc (pc' := 51) rfl ?_)
          refine fp_istore (i := 4) dd_Mo_bestTrain_51 (Nat.le_of_ble_eq_true rfl) (fun _ => c1_i rfl) (fr_to (pc' := 53) (env' := [some (sf_rv p0), some (.int p1), some (.int p2), some (.int b1.1), some (.int x5), some (.int b1.2.2), some (.int x5)]) (stk' := []) rfl rfl rfl ?_)
          refine fp_iload (i := 5) (x := b1.2.2) dd_Mo_bestTrain_53 rfl (fr_pc (pc' := 55) rfl ?_)
          refine fp_istore_n (i := 3) dd_Mo_bestTrain_55 rfl (Nat.le_of_ble_eq_true rfl) (fun _ => c1_i rfl) (fr_to (pc' := 56) (env' := [some (sf_rv p0), some (.int p1), some (.int p2), some (.int b1.2.2), some (.int x5), some (.int b1.2.2), some (.int x5)]) (stk' := []) rfl rfl rfl ?_)
          refine fr_niinc (i := 5) (x := b1.2.2) (w := (1 : Int32)) dd_Mo_bestTrain_56 rfl (by decide) (Nat.le_of_ble_eq_true rfl) (fun _ => c1_i rfl) (fun y9 => fr_to (pc' := 59) (env' := [some (sf_rv p0), some (.int p1), some (.int p2), some (.int b1.2.2), some (.int x5), some (.int y9), some (.int x5)]) (stk' := []) rfl rfl rfl ?_)
          refine fp_goto (tgt := 10) dd_Mo_bestTrain_59 rfl ?_
          refine fr_wk [true, true, true, true, true, true, false] ?_
          exact fr_ret rfl
        · refine fr_pc (pc' := 46) rfl ?_
          refine fp_goto (tgt := 56) dd_Mo_bestTrain_46 rfl ?_
          refine fr_niinc (i := 5) (x := b1.2.2) (w := (1 : Int32)) dd_Mo_bestTrain_56 rfl (by decide) (Nat.le_of_ble_eq_true rfl) (fun _ => c1_i rfl) (fun y10 => fr_to (pc' := 59) (env' := [some (sf_rv p0), some (.int p1), some (.int p2), some (.int b1.1), some (.int b1.2.1), some (.int y10), some (.int x5)]) (stk' := []) rfl rfl rfl ?_)
          refine fp_goto (tgt := 10) dd_Mo_bestTrain_59 rfl ?_
          refine fr_wk [true, true, true, true, true, true, false] ?_
          exact fr_ret rfl
  · refine fp_iload_n (i := 3) (x := e11) dd_Mo_bestTrain_62 rfl rfl (fr_pc (pc' := 63) rfl ?_)
    exact fr_iret (v := e11) rfl rfl dd_Mo_bestTrain_63
theorem mt_Mo_mostSaved : sf_Mt ({ cls := "SplitFaresModel", name := "mostSaved", desc := "(II)I" } : Jvm.MethodName) prog_13_method_103_code 9 (some .int) 2 := ⟨sw_1607, sw_12, ⟨by decide, by decide, by decide +kernel⟩, by decide⟩
theorem dd_Mo_mostSaved_0 : decode prog_13_method_103_code 0 = .ok (.aload_n 0, 1) := by decide +kernel
theorem dd_Mo_mostSaved_1 : decode prog_13_method_103_code 1 = .ok (.iload_n 1, 1) := by decide +kernel
theorem dd_Mo_mostSaved_2 : decode prog_13_method_103_code 2 = .ok (.invokevirtual 132, 3) := by decide +kernel
theorem dd_Mo_mostSaved_5 : decode prog_13_method_103_code 5 = .ok (.ifCond .eq 12, 3) := by decide +kernel
theorem dd_Mo_mostSaved_8 : decode prog_13_method_103_code 8 = .ok (.iload_n 2, 1) := by decide +kernel
theorem dd_Mo_mostSaved_9 : decode prog_13_method_103_code 9 = .ok (.iconst 0, 1) := by decide +kernel
theorem dd_Mo_mostSaved_10 : decode prog_13_method_103_code 10 = .ok (.iconst 2, 1) := by decide +kernel
theorem dd_Mo_mostSaved_11 : decode prog_13_method_103_code 11 = .ok (.invokestatic 18, 3) := by decide +kernel
theorem dd_Mo_mostSaved_14 : decode prog_13_method_103_code 14 = .ok (.ifCond .ne 5, 3) := by decide +kernel
theorem dd_Mo_mostSaved_19 : decode prog_13_method_103_code 19 = .ok (.iconst (-1), 1) := by decide +kernel
theorem dd_Mo_mostSaved_20 : decode prog_13_method_103_code 20 = .ok (.istore_n 3, 1) := by decide +kernel
theorem dd_Mo_mostSaved_21 : decode prog_13_method_103_code 21 = .ok (.iconst (-1), 1) := by decide +kernel
theorem dd_Mo_mostSaved_22 : decode prog_13_method_103_code 22 = .ok (.istore 4, 2) := by decide +kernel
theorem dd_Mo_mostSaved_24 : decode prog_13_method_103_code 24 = .ok (.iconst (-1), 1) := by decide +kernel
theorem dd_Mo_mostSaved_25 : decode prog_13_method_103_code 25 = .ok (.istore 5, 2) := by decide +kernel
theorem dd_Mo_mostSaved_27 : decode prog_13_method_103_code 27 = .ok (.iconst 0, 1) := by decide +kernel
theorem dd_Mo_mostSaved_28 : decode prog_13_method_103_code 28 = .ok (.istore 6, 2) := by decide +kernel
theorem dd_Mo_mostSaved_30 : decode prog_13_method_103_code 30 = .ok (.iload 6, 2) := by decide +kernel
theorem dd_Mo_mostSaved_32 : decode prog_13_method_103_code 32 = .ok (.bipush 8, 2) := by decide +kernel
theorem dd_Mo_mostSaved_34 : decode prog_13_method_103_code 34 = .ok (.if_icmp .ge 56, 3) := by decide +kernel
theorem dd_Mo_mostSaved_37 : decode prog_13_method_103_code 37 = .ok (.iconst 0, 1) := by decide +kernel
theorem dd_Mo_mostSaved_38 : decode prog_13_method_103_code 38 = .ok (.istore 7, 2) := by decide +kernel
theorem dd_Mo_mostSaved_40 : decode prog_13_method_103_code 40 = .ok (.iload 7, 2) := by decide +kernel
theorem dd_Mo_mostSaved_42 : decode prog_13_method_103_code 42 = .ok (.bipush 8, 2) := by decide +kernel
theorem dd_Mo_mostSaved_44 : decode prog_13_method_103_code 44 = .ok (.if_icmp .ge 40, 3) := by decide +kernel
theorem dd_Mo_mostSaved_47 : decode prog_13_method_103_code 47 = .ok (.aload_n 0, 1) := by decide +kernel
theorem dd_Mo_mostSaved_48 : decode prog_13_method_103_code 48 = .ok (.iload_n 1, 1) := by decide +kernel
theorem dd_Mo_mostSaved_49 : decode prog_13_method_103_code 49 = .ok (.iload 6, 2) := by decide +kernel
theorem dd_Mo_mostSaved_51 : decode prog_13_method_103_code 51 = .ok (.iload 7, 2) := by decide +kernel
theorem dd_Mo_mostSaved_53 : decode prog_13_method_103_code 53 = .ok (.invokevirtual 404, 3) := by decide +kernel
theorem dd_Mo_mostSaved_56 : decode prog_13_method_103_code 56 = .ok (.istore 8, 2) := by decide +kernel
theorem dd_Mo_mostSaved_58 : decode prog_13_method_103_code 58 = .ok (.iload 8, 2) := by decide +kernel
theorem dd_Mo_mostSaved_60 : decode prog_13_method_103_code 60 = .ok (.iload_n 3, 1) := by decide +kernel
theorem dd_Mo_mostSaved_61 : decode prog_13_method_103_code 61 = .ok (.if_icmp .gt 6, 3) := by decide +kernel
theorem dd_Mo_mostSaved_64 : decode prog_13_method_103_code 64 = .ok (.goto 14, 3) := by decide +kernel
theorem dd_Mo_mostSaved_67 : decode prog_13_method_103_code 67 = .ok (.iload 8, 2) := by decide +kernel
theorem dd_Mo_mostSaved_69 : decode prog_13_method_103_code 69 = .ok (.istore_n 3, 1) := by decide +kernel
theorem dd_Mo_mostSaved_70 : decode prog_13_method_103_code 70 = .ok (.iload 6, 2) := by decide +kernel
theorem dd_Mo_mostSaved_72 : decode prog_13_method_103_code 72 = .ok (.istore 4, 2) := by decide +kernel
theorem dd_Mo_mostSaved_74 : decode prog_13_method_103_code 74 = .ok (.iload 7, 2) := by decide +kernel
theorem dd_Mo_mostSaved_76 : decode prog_13_method_103_code 76 = .ok (.istore 5, 2) := by decide +kernel
theorem dd_Mo_mostSaved_78 : decode prog_13_method_103_code 78 = .ok (.iinc 7 1, 3) := by decide +kernel
theorem dd_Mo_mostSaved_81 : decode prog_13_method_103_code 81 = .ok (.goto (-41), 3) := by decide +kernel
theorem dd_Mo_mostSaved_84 : decode prog_13_method_103_code 84 = .ok (.iinc 6 1, 3) := by decide +kernel
theorem dd_Mo_mostSaved_87 : decode prog_13_method_103_code 87 = .ok (.goto (-57), 3) := by decide +kernel
theorem dd_Mo_mostSaved_90 : decode prog_13_method_103_code 90 = .ok (.iload_n 2, 1) := by decide +kernel
theorem dd_Mo_mostSaved_91 : decode prog_13_method_103_code 91 = .ok (.ifCond .ne 7, 3) := by decide +kernel
theorem dd_Mo_mostSaved_94 : decode prog_13_method_103_code 94 = .ok (.iload_n 3, 1) := by decide +kernel
theorem dd_Mo_mostSaved_95 : decode prog_13_method_103_code 95 = .ok (.goto 15, 3) := by decide +kernel
theorem dd_Mo_mostSaved_98 : decode prog_13_method_103_code 98 = .ok (.iload_n 2, 1) := by decide +kernel
theorem dd_Mo_mostSaved_99 : decode prog_13_method_103_code 99 = .ok (.iconst 1, 1) := by decide +kernel
theorem dd_Mo_mostSaved_100 : decode prog_13_method_103_code 100 = .ok (.if_icmp .ne 8, 3) := by decide +kernel
theorem dd_Mo_mostSaved_103 : decode prog_13_method_103_code 103 = .ok (.iload 4, 2) := by decide +kernel
theorem dd_Mo_mostSaved_105 : decode prog_13_method_103_code 105 = .ok (.goto 5, 3) := by decide +kernel
theorem dd_Mo_mostSaved_108 : decode prog_13_method_103_code 108 = .ok (.iload 5, 2) := by decide +kernel
theorem dd_Mo_mostSaved_110 : decode prog_13_method_103_code 110 = .ok (.ireturn, 1) := by decide +kernel
theorem dd_Mo_mostSaved_17 : decode prog_13_method_103_code 17 = .ok (.iconst (-1), 1) := by decide +kernel
theorem dd_Mo_mostSaved_18 : decode prog_13_method_103_code 18 = .ok (.ireturn, 1) := by decide +kernel
def jx_Mo_mostSaved (p0 : Option Nat) (p1 : Int32) (p2 : Int32) : sf_M (Int32) :=
  sf_bnd (sf_rc 11 p0 (jx_Mo_isTrain p0 p1)) fun x1 =>
  if x1 = 0 then (
  sf_ret (-1 : Int32)
  ) else (
  sf_bnd (jx_Mo_lies p2 (0 : Int32) (2 : Int32)) fun x3 =>
  if x3 = 0 then (
  sf_ret (-1 : Int32)
  ) else (
  sf_bnd (sf_loop (β := (Int32 × Int32 × Int32 × Int32)) (γ := (Int32 × Int32 × Int32)) (fun b5 =>
  if (8 : Int32) ≤ b5.2.2.2 then (
  sf_ret (.inr (b5.1, b5.2.1, b5.2.2.1))
  ) else (
  sf_bnd (sf_loop (β := (Int32 × Int32 × Int32 × Int32)) (γ := (Int32 × Int32 × Int32)) (fun b7 =>
  if (8 : Int32) ≤ b7.2.2.2 then (
  sf_ret (.inr (b7.1, b7.2.1, b7.2.2.1))
  ) else (
  sf_bnd (sf_rc 11 p0 (jx_Mo_savedOf p0 p1 b5.2.2.2 b7.2.2.2)) fun x9 =>
  if b7.1 < x9 then (
  sf_bnd (sf_ret (b7.2.2.2 + (1 : Int32))) fun y11 =>
  sf_ret (.inl (x9, b5.2.2.2, b7.2.2.2, y11))
  ) else (
  sf_bnd (sf_ret (b7.2.2.2 + (1 : Int32))) fun y12 =>
  sf_ret (.inl (b7.1, b7.2.1, b7.2.2.1, y12))
  )
  )
  ) sf_fuel (b5.1, b5.2.1, b5.2.2.1, (0 : Int32))) (fun e13 =>
  sf_bnd (sf_ret (b5.2.2.2 + (1 : Int32))) fun y14 =>
  sf_ret (.inl (e13.1, e13.2.1, e13.2.2, y14))
  )
  )
  ) sf_fuel ((-1 : Int32), (-1 : Int32), (-1 : Int32), (0 : Int32))) (fun e15 =>
  if p2 = 0 then (
  sf_ret e15.1
  ) else (
  if p2 = (1 : Int32) then (
  sf_ret e15.2.1
  ) else (
  sf_ret e15.2.2
  )
  )
  )
  )
  )
set_option maxRecDepth 20000 in
set_option maxHeartbeats 4000000 in
theorem ok_Mo_mostSaved (p0 : Option Nat) (p1 : Int32) (p2 : Int32) : sf_Ok ({ cls := "SplitFaresModel", name := "mostSaved", desc := "(II)I" } : Jvm.MethodName) prog_13_method_103_code 9 (some .int) 210 [sf_rv p0, .int p1, .int p2] (jx_Mo_mostSaved p0 p1 p2) (fun r => some (.int r)) := by
  refine sf_Ok.of (env := [some (sf_rv p0), some (.int p1), some (.int p2), none, none, none, none, none, none]) (plainFor_of_name (by decide)) [false, false, false] (fun G => ⟨pk_r, pk_i, pk_i, trivial⟩) (Nat.le_of_ble_eq_true rfl) rfl (fun X => ?_)
  unfold jx_Mo_mostSaved
  refine fp_aload_n (i := 0) (r := p0) dd_Mo_mostSaved_0 rfl rfl (fr_pc (pc' := 1) rfl ?_)
  refine fp_iload_n (i := 1) (x := p1) dd_Mo_mostSaved_1 rfl rfl (fr_pc (pc' := 2) rfl ?_)
  refine fr_callV (stk := []) (As := [.int p1]) cl_11 (ok_Mo_isTrain p0 p1) mt_Mo_isTrain rfl rfl sw_1274 sw_1276 sp_31 (by decide) (Nat.le_of_ble_eq_true rfl) dd_Mo_mostSaved_2 (fun x1 => fr_to (pc' := 5) (env' := [some (sf_rv p0), some (.int p1), some (.int p2), none, none, none, none, none, none]) (stk' := [.int x1]) rfl rfl rfl ?_)
  refine fr_if_eq (tgt := 17) dd_Mo_mostSaved_5 rfl (fun _ => ?_) (fun _ => ?_)
  · refine fp_iconst (v := (-1 : Int32)) dd_Mo_mostSaved_17 (by decide) (fr_pc (pc' := 18) rfl ?_)
    exact fr_iret (v := (-1 : Int32)) rfl rfl dd_Mo_mostSaved_18
  · refine fr_pc (pc' := 8) rfl ?_
    refine fp_iload_n (i := 2) (x := p2) dd_Mo_mostSaved_8 rfl rfl (fr_pc (pc' := 9) rfl ?_)
    refine fp_iconst (v := (0 : Int32)) dd_Mo_mostSaved_9 (by decide) (fr_pc (pc' := 10) rfl ?_)
    refine fp_iconst (v := (2 : Int32)) dd_Mo_mostSaved_10 (by decide) (fr_pc (pc' := 11) rfl ?_)
    refine fr_callS (stk := []) (ok_Mo_lies p2 (0 : Int32) (2 : Int32)) mt_Mo_lies rfl rfl sw_1237 sw_1238 (by decide) (Nat.le_of_ble_eq_true rfl) dd_Mo_mostSaved_11 (fun x3 => fr_to (pc' := 14) (env' := [some (sf_rv p0), some (.int p1), some (.int p2), none, none, none, none, none, none]) (stk' := [.int x3]) rfl rfl rfl ?_)
    refine fr_if_ne (tgt := 19) dd_Mo_mostSaved_14 rfl (fun _ => ?_) (fun _ => ?_)
    · refine fr_pc (pc' := 17) rfl ?_
      refine fp_iconst (v := (-1 : Int32)) dd_Mo_mostSaved_17 (by decide) (fr_pc (pc' := 18) rfl ?_)
      exact fr_iret (v := (-1 : Int32)) rfl rfl dd_Mo_mostSaved_18
    · refine fp_iconst (v := (-1 : Int32)) dd_Mo_mostSaved_19 (by decide) (fr_pc (pc' := 20) rfl ?_)
      refine fp_istore_n (i := 3) dd_Mo_mostSaved_20 rfl (Nat.le_of_ble_eq_true rfl) (fun _ => c1_i rfl) (fr_to (pc' := 21) (env' := [some (sf_rv p0), some (.int p1), some (.int p2), some (.int (-1 : Int32)), none, none, none, none, none]) (stk' := []) rfl rfl rfl ?_)
      refine fp_iconst (v := (-1 : Int32)) dd_Mo_mostSaved_21 (by decide) (fr_pc (pc' := 22) rfl ?_)
      refine fp_istore (i := 4) dd_Mo_mostSaved_22 (Nat.le_of_ble_eq_true rfl) (fun _ => c1_i rfl) (fr_to (pc' := 24) (env' := [some (sf_rv p0), some (.int p1), some (.int p2), some (.int (-1 : Int32)), some (.int (-1 : Int32)), none, none, none, none]) (stk' := []) rfl rfl rfl ?_)
      refine fp_iconst (v := (-1 : Int32)) dd_Mo_mostSaved_24 (by decide) (fr_pc (pc' := 25) rfl ?_)
      refine fp_istore (i := 5) dd_Mo_mostSaved_25 (Nat.le_of_ble_eq_true rfl) (fun _ => c1_i rfl) (fr_to (pc' := 27) (env' := [some (sf_rv p0), some (.int p1), some (.int p2), some (.int (-1 : Int32)), some (.int (-1 : Int32)), some (.int (-1 : Int32)), none, none, none]) (stk' := []) rfl rfl rfl ?_)
      refine fp_iconst (v := (0 : Int32)) dd_Mo_mostSaved_27 (by decide) (fr_pc (pc' := 28) rfl ?_)
      refine fp_istore (i := 6) dd_Mo_mostSaved_28 (Nat.le_of_ble_eq_true rfl) (fun _ => c1_i rfl) (fr_to (pc' := 30) (env' := [some (sf_rv p0), some (.int p1), some (.int p2), some (.int (-1 : Int32)), some (.int (-1 : Int32)), some (.int (-1 : Int32)), some (.int (0 : Int32)), none, none]) (stk' := []) rfl rfl rfl ?_)
      refine fr_to (pc' := 30) (env' := [some (sf_rv p0), some (.int p1), some (.int p2), some (.int (-1 : Int32)), some (.int (-1 : Int32)), some (.int (-1 : Int32)), some (.int (0 : Int32)), none, none]) (stk' := []) rfl rfl rfl ?_
      refine fr_bnd (l1 := (fun (e15 : (Int32 × Int32 × Int32)) => sf_p 90 [some (sf_rv p0), some (.int p1), some (.int p2), some (.int e15.1), some (.int e15.2.1), some (.int e15.2.2), none, none, none] [])) (fr_loop (Lb := (fun (b5 : (Int32 × Int32 × Int32 × Int32)) => sf_p 30 [some (sf_rv p0), some (.int p1), some (.int p2), some (.int b5.1), some (.int b5.2.1), some (.int b5.2.2.1), some (.int b5.2.2.2), none, none] [])) (fun b5 => ?_) _ _) (fun e15 => ?_)
      · refine fp_iload (i := 6) (x := b5.2.2.2) dd_Mo_mostSaved_30 rfl (fr_pc (pc' := 32) rfl ?_)
        refine fp_bipush (v := (8 : Int32)) dd_Mo_mostSaved_32 (by decide) (fr_pc (pc' := 34) rfl ?_)
        refine fr_icmp_ge (tgt := 90) dd_Mo_mostSaved_34 rfl (fun _ => ?_) (fun _ => ?_)
        · refine fr_wk [true, true, true, true, true, true, false, false, false] ?_
          exact fr_ret rfl
        · refine fr_pc (pc' := 37) rfl ?_
          refine fp_iconst (v := (0 : Int32)) dd_Mo_mostSaved_37 (by decide) (fr_pc (pc' := 38) rfl ?_)
          refine fp_istore (i := 7) dd_Mo_mostSaved_38 (Nat.le_of_ble_eq_true rfl) (fun _ => c1_i rfl) (fr_to (pc' := 40) (env' := [some (sf_rv p0), some (.int p1), some (.int p2), some (.int b5.1), some (.int b5.2.1), some (.int b5.2.2.1), some (.int b5.2.2.2), some (.int (0 : Int32)), none]) (stk' := []) rfl rfl rfl ?_)
          refine fr_to (pc' := 40) (env' := [some (sf_rv p0), some (.int p1), some (.int p2), some (.int b5.1), some (.int b5.2.1), some (.int b5.2.2.1), some (.int b5.2.2.2), some (.int (0 : Int32)), none]) (stk' := []) rfl rfl rfl ?_
          refine fr_bnd (l1 := (fun (e13 : (Int32 × Int32 × Int32)) => sf_p 84 [some (sf_rv p0), some (.int p1), some (.int p2), some (.int e13.1), some (.int e13.2.1), some (.int e13.2.2), some (.int b5.2.2.2), none, none] [])) (fr_loop (Lb := (fun (b7 : (Int32 × Int32 × Int32 × Int32)) => sf_p 40 [some (sf_rv p0), some (.int p1), some (.int p2), some (.int b7.1), some (.int b7.2.1), some (.int b7.2.2.1), some (.int b5.2.2.2), some (.int b7.2.2.2), none] [])) (fun b7 => ?_) _ _) (fun e13 => ?_)
          · refine fp_iload (i := 7) (x := b7.2.2.2) dd_Mo_mostSaved_40 rfl (fr_pc (pc' := 42) rfl ?_)
            refine fp_bipush (v := (8 : Int32)) dd_Mo_mostSaved_42 (by decide) (fr_pc (pc' := 44) rfl ?_)
            refine fr_icmp_ge (tgt := 84) dd_Mo_mostSaved_44 rfl (fun _ => ?_) (fun _ => ?_)
            · refine fr_wk [true, true, true, true, true, true, true, false, false] ?_
              exact fr_ret rfl
            · refine fr_pc (pc' := 47) rfl ?_
              refine fp_aload_n (i := 0) (r := p0) dd_Mo_mostSaved_47 rfl rfl (fr_pc (pc' := 48) rfl ?_)
              refine fp_iload_n (i := 1) (x := p1) dd_Mo_mostSaved_48 rfl rfl (fr_pc (pc' := 49) rfl ?_)
              refine fp_iload (i := 6) (x := b5.2.2.2) dd_Mo_mostSaved_49 rfl (fr_pc (pc' := 51) rfl ?_)
              refine fp_iload (i := 7) (x := b7.2.2.2) dd_Mo_mostSaved_51 rfl (fr_pc (pc' := 53) rfl ?_)
              refine fr_callV (stk := []) (As := [.int p1, .int b5.2.2.2, .int b7.2.2.2]) cl_11 (ok_Mo_savedOf p0 p1 b5.2.2.2 b7.2.2.2) mt_Mo_savedOf rfl rfl sw_1596 sw_1598 sp_82 (by decide) (Nat.le_of_ble_eq_true rfl) dd_Mo_mostSaved_53 (fun x9 => fr_to (pc' := 56) (env' := [some (sf_rv p0), some (.int p1), some (.int p2), some (.int b7.1), some (.int b7.2.1), some (.int b7.2.2.1), some (.int b5.2.2.2), some (.int b7.2.2.2), none]) (stk' := [.int x9]) rfl rfl rfl ?_)
              refine fp_istore (i := 8) dd_Mo_mostSaved_56 (Nat.le_of_ble_eq_true rfl) (fun _ => c1_i rfl) (fr_to (pc' := 58) (env' := [some (sf_rv p0), some (.int p1), some (.int p2), some (.int b7.1), some (.int b7.2.1), some (.int b7.2.2.1), some (.int b5.2.2.2), some (.int b7.2.2.2), some (.int x9)]) (stk' := []) rfl rfl rfl ?_)
              refine fp_iload (i := 8) (x := x9) dd_Mo_mostSaved_58 rfl (fr_pc (pc' := 60) rfl ?_)
              refine fp_iload_n (i := 3) (x := b7.1) dd_Mo_mostSaved_60 rfl rfl (fr_pc (pc' := 61) rfl ?_)
              refine fr_icmp_gt (tgt := 67) dd_Mo_mostSaved_61 rfl (fun _ => ?_) (fun _ => ?_)
              · refine fp_iload (i := 8) (x := x9) dd_Mo_mostSaved_67 rfl (fr_pc (pc' := 69) rfl ?_)
                refine fp_istore_n (i := 3) dd_Mo_mostSaved_69 rfl (Nat.le_of_ble_eq_true rfl) (fun _ => c1_i rfl) (fr_to (pc' := 70) (env' := [some (sf_rv p0), some (.int p1), some (.int p2), some (.int x9), some (.int b7.2.1), some (.int b7.2.2.1), some (.int b5.2.2.2), some (.int b7.2.2.2), some (.int x9)]) (stk' := []) rfl rfl rfl ?_)
                refine fp_iload (i := 6) (x := b5.2.2.2) dd_Mo_mostSaved_70 rfl (fr_pc (pc' := 72) rfl ?_)
                refine fp_istore (i := 4) dd_Mo_mostSaved_72 (Nat.le_of_ble_eq_true rfl) (fun _ => c1_i rfl) (fr_to (pc' := 74) (env' := [some (sf_rv p0), some (.int p1), some (.int p2), some (.int x9), some (.int b5.2.2.2), some (.int b7.2.2.1), some (.int b5.2.2.2), some (.int b7.2.2.2), some (.int x9)]) (stk' := []) rfl rfl rfl ?_)
                refine fp_iload (i := 7) (x := b7.2.2.2) dd_Mo_mostSaved_74 rfl (fr_pc (pc' := 76) rfl ?_)
                refine fp_istore (i := 5) dd_Mo_mostSaved_76 (Nat.le_of_ble_eq_true rfl) (fun _ => c1_i rfl) (fr_to (pc' := 78) (env' := [some (sf_rv p0), some (.int p1), some (.int p2), some (.int x9), some (.int b5.2.2.2), some (.int b7.2.2.2), some (.int b5.2.2.2), some (.int b7.2.2.2), some (.int x9)]) (stk' := []) rfl rfl rfl ?_)
                refine fr_niinc (i := 7) (x := b7.2.2.2) (w := (1 : Int32)) dd_Mo_mostSaved_78 rfl (by decide) (Nat.le_of_ble_eq_true rfl) (fun _ => c1_i rfl) (fun y11 => fr_to (pc' := 81) (env' := [some (sf_rv p0), some (.int p1), some (.int p2), some (.int x9), some (.int b5.2.2.2), some (.int b7.2.2.2), some (.int b5.2.2.2), some (.int y11), some (.int x9)]) (stk' := []) rfl rfl rfl ?_)
                refine fp_goto (tgt := 40) dd_Mo_mostSaved_81 rfl ?_
                refine fr_wk [true, true, true, true, true, true, true, true, false] ?_
                exact fr_ret rfl
              · refine fr_pc (pc' := 64) rfl ?_
                refine fp_goto (tgt := 78) dd_Mo_mostSaved_64 rfl ?_
                refine fr_niinc (i := 7) (x := b7.2.2.2) (w := (1 : Int32)) dd_Mo_mostSaved_78 rfl (by decide) (Nat.le_of_ble_eq_true rfl) (fun _ => c1_i rfl) (fun y12 => fr_to (pc' := 81) (env' := [some (sf_rv p0), some (.int p1), some (.int p2), some (.int b7.1), some (.int b7.2.1), some (.int b7.2.2.1), some (.int b5.2.2.2), some (.int y12), some (.int x9)]) (stk' := []) rfl rfl rfl ?_)
                refine fp_goto (tgt := 40) dd_Mo_mostSaved_81 rfl ?_
                refine fr_wk [true, true, true, true, true, true, true, true, false] ?_
                exact fr_ret rfl
          · refine fr_niinc (i := 6) (x := b5.2.2.2) (w := (1 : Int32)) dd_Mo_mostSaved_84 rfl (by decide) (Nat.le_of_ble_eq_true rfl) (fun _ => c1_i rfl) (fun y14 => fr_to (pc' := 87) (env' := [some (sf_rv p0), some (.int p1), some (.int p2), some (.int e13.1), some (.int e13.2.1), some (.int e13.2.2), some (.int y14), none, none]) (stk' := []) rfl rfl rfl ?_)
            refine fp_goto (tgt := 30) dd_Mo_mostSaved_87 rfl ?_
            exact fr_ret rfl
      · refine fp_iload_n (i := 2) (x := p2) dd_Mo_mostSaved_90 rfl rfl (fr_pc (pc' := 91) rfl ?_)
        refine fr_if_ne (tgt := 98) dd_Mo_mostSaved_91 rfl (fun _ => ?_) (fun _ => ?_)
        · refine fr_pc (pc' := 94) rfl ?_
          refine fp_iload_n (i := 3) (x := e15.1) dd_Mo_mostSaved_94 rfl rfl (fr_pc (pc' := 95) rfl ?_)
          refine fp_goto (tgt := 110) dd_Mo_mostSaved_95 rfl ?_
          exact fr_iret (v := e15.1) rfl rfl dd_Mo_mostSaved_110
        · refine fp_iload_n (i := 2) (x := p2) dd_Mo_mostSaved_98 rfl rfl (fr_pc (pc' := 99) rfl ?_)
          refine fp_iconst (v := (1 : Int32)) dd_Mo_mostSaved_99 (by decide) (fr_pc (pc' := 100) rfl ?_)
          refine fr_icmp_ne (tgt := 108) dd_Mo_mostSaved_100 rfl (fun _ => ?_) (fun _ => ?_)
          · refine fr_pc (pc' := 103) rfl ?_
            refine fp_iload (i := 4) (x := e15.2.1) dd_Mo_mostSaved_103 rfl (fr_pc (pc' := 105) rfl ?_)
            refine fp_goto (tgt := 110) dd_Mo_mostSaved_105 rfl ?_
            exact fr_iret (v := e15.2.1) rfl rfl dd_Mo_mostSaved_110
          · refine fp_iload (i := 5) (x := e15.2.2) dd_Mo_mostSaved_108 rfl (fr_pc (pc' := 110) rfl ?_)
            exact fr_iret (v := e15.2.2) rfl rfl dd_Mo_mostSaved_110
theorem mt_Mo_purseEnd : sf_Mt ({ cls := "SplitFaresModel", name := "purseEnd", desc := "()I" } : Jvm.MethodName) prog_13_method_104_code 5 (some .int) 0 := ⟨sw_1611, sw_12, ⟨by decide, by decide, by decide +kernel⟩, by decide⟩
theorem dd_Mo_purseEnd_0 : decode prog_13_method_104_code 0 = .ok (.iconst 1, 1) := by decide +kernel
theorem dd_Mo_purseEnd_1 : decode prog_13_method_104_code 1 = .ok (.aload_n 0, 1) := by decide +kernel
theorem dd_Mo_purseEnd_2 : decode prog_13_method_104_code 2 = .ok (.getfield 32, 3) := by decide +kernel
theorem dd_Mo_purseEnd_5 : decode prog_13_method_104_code 5 = .ok (.sipush 192, 3) := by decide +kernel
theorem dd_Mo_purseEnd_8 : decode prog_13_method_104_code 8 = .ok (.iaload, 1) := by decide +kernel
theorem dd_Mo_purseEnd_9 : decode prog_13_method_104_code 9 = .ok (.ishl, 1) := by decide +kernel
theorem dd_Mo_purseEnd_10 : decode prog_13_method_104_code 10 = .ok (.istore_n 1, 1) := by decide +kernel
theorem dd_Mo_purseEnd_11 : decode prog_13_method_104_code 11 = .ok (.iconst 0, 1) := by decide +kernel
theorem dd_Mo_purseEnd_12 : decode prog_13_method_104_code 12 = .ok (.istore_n 2, 1) := by decide +kernel
theorem dd_Mo_purseEnd_13 : decode prog_13_method_104_code 13 = .ok (.iload_n 2, 1) := by decide +kernel
theorem dd_Mo_purseEnd_14 : decode prog_13_method_104_code 14 = .ok (.aload_n 0, 1) := by decide +kernel
theorem dd_Mo_purseEnd_15 : decode prog_13_method_104_code 15 = .ok (.getfield 32, 3) := by decide +kernel
theorem dd_Mo_purseEnd_18 : decode prog_13_method_104_code 18 = .ok (.sipush 227, 3) := by decide +kernel
theorem dd_Mo_purseEnd_21 : decode prog_13_method_104_code 21 = .ok (.iaload, 1) := by decide +kernel
theorem dd_Mo_purseEnd_22 : decode prog_13_method_104_code 22 = .ok (.if_icmp .ge 68, 3) := by decide +kernel
theorem dd_Mo_purseEnd_25 : decode prog_13_method_104_code 25 = .ok (.iconst 0, 1) := by decide +kernel
theorem dd_Mo_purseEnd_26 : decode prog_13_method_104_code 26 = .ok (.istore_n 3, 1) := by decide +kernel
theorem dd_Mo_purseEnd_27 : decode prog_13_method_104_code 27 = .ok (.iload_n 3, 1) := by decide +kernel
theorem dd_Mo_purseEnd_28 : decode prog_13_method_104_code 28 = .ok (.bipush 8, 2) := by decide +kernel
theorem dd_Mo_purseEnd_30 : decode prog_13_method_104_code 30 = .ok (.if_icmp .ge 54, 3) := by decide +kernel
theorem dd_Mo_purseEnd_33 : decode prog_13_method_104_code 33 = .ok (.aload_n 0, 1) := by decide +kernel
theorem dd_Mo_purseEnd_34 : decode prog_13_method_104_code 34 = .ok (.iload_n 2, 1) := by decide +kernel
theorem dd_Mo_purseEnd_35 : decode prog_13_method_104_code 35 = .ok (.aload_n 0, 1) := by decide +kernel
theorem dd_Mo_purseEnd_36 : decode prog_13_method_104_code 36 = .ok (.getfield 32, 3) := by decide +kernel
theorem dd_Mo_purseEnd_39 : decode prog_13_method_104_code 39 = .ok (.sipush 192, 3) := by decide +kernel
theorem dd_Mo_purseEnd_42 : decode prog_13_method_104_code 42 = .ok (.iaload, 1) := by decide +kernel
theorem dd_Mo_purseEnd_43 : decode prog_13_method_104_code 43 = .ok (.iload_n 3, 1) := by decide +kernel
theorem dd_Mo_purseEnd_44 : decode prog_13_method_104_code 44 = .ok (.invokevirtual 379, 3) := by decide +kernel
theorem dd_Mo_purseEnd_47 : decode prog_13_method_104_code 47 = .ok (.istore 4, 2) := by decide +kernel
theorem dd_Mo_purseEnd_49 : decode prog_13_method_104_code 49 = .ok (.iload_n 1, 1) := by decide +kernel
theorem dd_Mo_purseEnd_50 : decode prog_13_method_104_code 50 = .ok (.iload 4, 2) := by decide +kernel
theorem dd_Mo_purseEnd_52 : decode prog_13_method_104_code 52 = .ok (.iconst (-1), 1) := by decide +kernel
theorem dd_Mo_purseEnd_53 : decode prog_13_method_104_code 53 = .ok (.if_icmp .eq 22, 3) := by decide +kernel
theorem dd_Mo_purseEnd_56 : decode prog_13_method_104_code 56 = .ok (.iload 4, 2) := by decide +kernel
theorem dd_Mo_purseEnd_58 : decode prog_13_method_104_code 58 = .ok (.aload_n 0, 1) := by decide +kernel
theorem dd_Mo_purseEnd_59 : decode prog_13_method_104_code 59 = .ok (.getfield 32, 3) := by decide +kernel
theorem dd_Mo_purseEnd_62 : decode prog_13_method_104_code 62 = .ok (.sipush 193, 3) := by decide +kernel
theorem dd_Mo_purseEnd_65 : decode prog_13_method_104_code 65 = .ok (.iaload, 1) := by decide +kernel
theorem dd_Mo_purseEnd_66 : decode prog_13_method_104_code 66 = .ok (.if_icmp .gt 9, 3) := by decide +kernel
theorem dd_Mo_purseEnd_69 : decode prog_13_method_104_code 69 = .ok (.iconst 1, 1) := by decide +kernel
theorem dd_Mo_purseEnd_70 : decode prog_13_method_104_code 70 = .ok (.iload_n 3, 1) := by decide +kernel
theorem dd_Mo_purseEnd_71 : decode prog_13_method_104_code 71 = .ok (.ishl, 1) := by decide +kernel
theorem dd_Mo_purseEnd_72 : decode prog_13_method_104_code 72 = .ok (.goto 4, 3) := by decide +kernel
theorem dd_Mo_purseEnd_75 : decode prog_13_method_104_code 75 = .ok (.iconst 0, 1) := by decide +kernel
theorem dd_Mo_purseEnd_76 : decode prog_13_method_104_code 76 = .ok (.ior, 1) := by decide +kernel
theorem dd_Mo_purseEnd_77 : decode prog_13_method_104_code 77 = .ok (.istore_n 1, 1) := by decide +kernel
theorem dd_Mo_purseEnd_78 : decode prog_13_method_104_code 78 = .ok (.iinc 3 1, 3) := by decide +kernel
theorem dd_Mo_purseEnd_81 : decode prog_13_method_104_code 81 = .ok (.goto (-54), 3) := by decide +kernel
theorem dd_Mo_purseEnd_84 : decode prog_13_method_104_code 84 = .ok (.iinc 2 1, 3) := by decide +kernel
theorem dd_Mo_purseEnd_87 : decode prog_13_method_104_code 87 = .ok (.goto (-74), 3) := by decide +kernel
theorem dd_Mo_purseEnd_90 : decode prog_13_method_104_code 90 = .ok (.iload_n 1, 1) := by decide +kernel
theorem dd_Mo_purseEnd_91 : decode prog_13_method_104_code 91 = .ok (.ireturn, 1) := by decide +kernel
def jx_Mo_purseEnd (p0 : Option Nat) : sf_M (Int32) :=
  sf_bnd (sf_gR 11 2 p0) fun x1 =>
  sf_bnd (sf_aI 0 x1 (192 : Int32)) fun x2 =>
  sf_bnd (sf_ret (((1 : Int32) <<< (x2 &&& 31)))) fun y3 =>
  sf_bnd (sf_loop (β := (Int32 × Int32)) (γ := (Int32)) (fun b4 =>
  sf_bnd (sf_gR 11 2 p0) fun x5 =>
  sf_bnd (sf_aI 0 x5 (227 : Int32)) fun x6 =>
  if x6 ≤ b4.2 then (
  sf_ret (.inr b4.1)
  ) else (
  sf_bnd (sf_loop (β := (Int32 × Int32)) (γ := (Int32)) (fun b8 =>
  if (8 : Int32) ≤ b8.2 then (
  sf_ret (.inr b8.1)
  ) else (
  sf_bnd (sf_gR 11 2 p0) fun x10 =>
  sf_bnd (sf_aI 0 x10 (192 : Int32)) fun x11 =>
  sf_bnd (sf_rc 11 p0 (jx_Mo_cheapestOf p0 b4.2 x11 b8.2)) fun x12 =>
  if x12 = (-1 : Int32) then (
  sf_bnd (sf_ret ((b8.1 ||| (0 : Int32)))) fun y14 =>
  sf_bnd (sf_ret (b8.2 + (1 : Int32))) fun y15 =>
  sf_ret (.inl (y14, y15))
  ) else (
  sf_bnd (sf_gR 11 2 p0) fun x16 =>
  sf_bnd (sf_aI 0 x16 (193 : Int32)) fun x17 =>
  if x17 < x12 then (
  sf_bnd (sf_ret ((b8.1 ||| (0 : Int32)))) fun y19 =>
  sf_bnd (sf_ret (b8.2 + (1 : Int32))) fun y20 =>
  sf_ret (.inl (y19, y20))
  ) else (
  sf_bnd (sf_ret ((b8.1 ||| ((1 : Int32) <<< (b8.2 &&& 31))))) fun y21 =>
  sf_bnd (sf_ret (b8.2 + (1 : Int32))) fun y22 =>
  sf_ret (.inl (y21, y22))
  )
  )
  )
  ) sf_fuel (b4.1, (0 : Int32))) (fun e23 =>
  sf_bnd (sf_ret (b4.2 + (1 : Int32))) fun y24 =>
  sf_ret (.inl (e23, y24))
  )
  )
  ) sf_fuel (y3, (0 : Int32))) (fun e25 =>
  sf_ret e25
  )
set_option maxRecDepth 20000 in
set_option maxHeartbeats 4000000 in
theorem ok_Mo_purseEnd (p0 : Option Nat) : sf_Ok ({ cls := "SplitFaresModel", name := "purseEnd", desc := "()I" } : Jvm.MethodName) prog_13_method_104_code 5 (some .int) 209 [sf_rv p0] (jx_Mo_purseEnd p0) (fun r => some (.int r)) := by
  refine sf_Ok.of (env := [some (sf_rv p0), none, none, none, none]) (plainFor_of_name (by decide)) [false] (fun G => ⟨pk_r, trivial⟩) (Nat.le_of_ble_eq_true rfl) rfl (fun X => ?_)
  unfold jx_Mo_purseEnd
  refine fp_iconst (v := (1 : Int32)) dd_Mo_purseEnd_0 (by decide) (fr_pc (pc' := 1) rfl ?_)
  refine fp_aload_n (i := 0) (r := p0) dd_Mo_purseEnd_1 rfl rfl (fr_pc (pc' := 2) rfl ?_)
  refine fr_gR cl_11 2 (by decide) rfl sw_1074 dd_Mo_purseEnd_2 (fun x1 => fr_pc (pc' := 5) rfl ?_)
  refine fp_sipush (v := (192 : Int32)) dd_Mo_purseEnd_5 (by decide) (fr_pc (pc' := 8) rfl ?_)
  refine fr_aI0 dd_Mo_purseEnd_8 (fun x2 => fr_pc (pc' := 9) rfl ?_)
  refine fp_ishl dd_Mo_purseEnd_9 (fr_pc (pc' := 10) rfl ?_)
  refine fr_nistore_n (i := 1) dd_Mo_purseEnd_10 rfl (Nat.le_of_ble_eq_true rfl) (fun _ => c1_r rfl) (fun y3 => fr_to (pc' := 11) (env' := [some (sf_rv p0), some (.int y3), none, none, none]) (stk' := []) rfl rfl rfl ?_)
  refine fp_iconst (v := (0 : Int32)) dd_Mo_purseEnd_11 (by decide) (fr_pc (pc' := 12) rfl ?_)
  refine fp_istore_n (i := 2) dd_Mo_purseEnd_12 rfl (Nat.le_of_ble_eq_true rfl) (fun _ => c1_i rfl) (fr_to (pc' := 13) (env' := [some (sf_rv p0), some (.int y3), some (.int (0 : Int32)), none, none]) (stk' := []) rfl rfl rfl ?_)
  refine fr_to (pc' := 13) (env' := [some (sf_rv p0), some (.int y3), some (.int (0 : Int32)), none, none]) (stk' := []) rfl rfl rfl ?_
  refine fr_bnd (l1 := (fun (e25 : (Int32)) => sf_p 90 [some (sf_rv p0), some (.int e25), none, none, none] [])) (fr_loop (Lb := (fun (b4 : (Int32 × Int32)) => sf_p 13 [some (sf_rv p0), some (.int b4.1), some (.int b4.2), none, none] [])) (fun b4 => ?_) _ _) (fun e25 => ?_)
  · refine fp_iload_n (i := 2) (x := b4.2) dd_Mo_purseEnd_13 rfl rfl (fr_pc (pc' := 14) rfl ?_)
    refine fp_aload_n (i := 0) (r := p0) dd_Mo_purseEnd_14 rfl rfl (fr_pc (pc' := 15) rfl ?_)
    refine fr_gR cl_11 2 (by decide) rfl sw_1074 dd_Mo_purseEnd_15 (fun x5 => fr_pc (pc' := 18) rfl ?_)
    refine fp_sipush (v := (227 : Int32)) dd_Mo_purseEnd_18 (by decide) (fr_pc (pc' := 21) rfl ?_)
    refine fr_aI0 dd_Mo_purseEnd_21 (fun x6 => fr_pc (pc' := 22) rfl ?_)
    refine fr_icmp_ge (tgt := 90) dd_Mo_purseEnd_22 rfl (fun _ => ?_) (fun _ => ?_)
    · refine fr_wk [true, true, false, false, false] ?_
      exact fr_ret rfl
    · refine fr_pc (pc' := 25) rfl ?_
      refine fp_iconst (v := (0 : Int32)) dd_Mo_purseEnd_25 (by decide) (fr_pc (pc' := 26) rfl ?_)
      refine fp_istore_n (i := 3) dd_Mo_purseEnd_26 rfl (Nat.le_of_ble_eq_true rfl) (fun _ => c1_i rfl) (fr_to (pc' := 27) (env' := [some (sf_rv p0), some (.int b4.1), some (.int b4.2), some (.int (0 : Int32)), none]) (stk' := []) rfl rfl rfl ?_)
      refine fr_to (pc' := 27) (env' := [some (sf_rv p0), some (.int b4.1), some (.int b4.2), some (.int (0 : Int32)), none]) (stk' := []) rfl rfl rfl ?_
      refine fr_bnd (l1 := (fun (e23 : (Int32)) => sf_p 84 [some (sf_rv p0), some (.int e23), some (.int b4.2), none, none] [])) (fr_loop (Lb := (fun (b8 : (Int32 × Int32)) => sf_p 27 [some (sf_rv p0), some (.int b8.1), some (.int b4.2), some (.int b8.2), none] [])) (fun b8 => ?_) _ _) (fun e23 => ?_)
      · refine fp_iload_n (i := 3) (x := b8.2) dd_Mo_purseEnd_27 rfl rfl (fr_pc (pc' := 28) rfl ?_)
        refine fp_bipush (v := (8 : Int32)) dd_Mo_purseEnd_28 (by decide) (fr_pc (pc' := 30) rfl ?_)
        refine fr_icmp_ge (tgt := 84) dd_Mo_purseEnd_30 rfl (fun _ => ?_) (fun _ => ?_)
        · refine fr_wk [true, true, true, false, false] ?_
          exact fr_ret rfl
        · refine fr_pc (pc' := 33) rfl ?_
          refine fp_aload_n (i := 0) (r := p0) dd_Mo_purseEnd_33 rfl rfl (fr_pc (pc' := 34) rfl ?_)
          refine fp_iload_n (i := 2) (x := b4.2) dd_Mo_purseEnd_34 rfl rfl (fr_pc (pc' := 35) rfl ?_)
          refine fp_aload_n (i := 0) (r := p0) dd_Mo_purseEnd_35 rfl rfl (fr_pc (pc' := 36) rfl ?_)
          refine fr_gR cl_11 2 (by decide) rfl sw_1074 dd_Mo_purseEnd_36 (fun x10 => fr_pc (pc' := 39) rfl ?_)
          refine fp_sipush (v := (192 : Int32)) dd_Mo_purseEnd_39 (by decide) (fr_pc (pc' := 42) rfl ?_)
          refine fr_aI0 dd_Mo_purseEnd_42 (fun x11 => fr_pc (pc' := 43) rfl ?_)
          refine fp_iload_n (i := 3) (x := b8.2) dd_Mo_purseEnd_43 rfl rfl (fr_pc (pc' := 44) rfl ?_)
          refine fr_callV (stk := []) (As := [.int b4.2, .int x11, .int b8.2]) cl_11 (ok_Mo_cheapestOf p0 b4.2 x11 b8.2) mt_Mo_cheapestOf rfl rfl sw_1523 sw_1525 sp_72 (by decide) (Nat.le_of_ble_eq_true rfl) dd_Mo_purseEnd_44 (fun x12 => fr_to (pc' := 47) (env' := [some (sf_rv p0), some (.int b8.1), some (.int b4.2), some (.int b8.2), none]) (stk' := [.int x12]) rfl rfl rfl ?_)
          refine fp_istore (i := 4) dd_Mo_purseEnd_47 (Nat.le_of_ble_eq_true rfl) (fun _ => c1_i rfl) (fr_to (pc' := 49) (env' := [some (sf_rv p0), some (.int b8.1), some (.int b4.2), some (.int b8.2), some (.int x12)]) (stk' := []) rfl rfl rfl ?_)
          refine fp_iload_n (i := 1) (x := b8.1) dd_Mo_purseEnd_49 rfl rfl (fr_pc (pc' := 50) rfl ?_)
          refine fp_iload (i := 4) (x := x12) dd_Mo_purseEnd_50 rfl (fr_pc (pc' := 52) rfl ?_)
          refine fp_iconst (v := (-1 : Int32)) dd_Mo_purseEnd_52 (by decide) (fr_pc (pc' := 53) rfl ?_)
          refine fr_icmp_eq (tgt := 75) dd_Mo_purseEnd_53 rfl (fun _ => ?_) (fun _ => ?_)
          · refine fp_iconst (v := (0 : Int32)) dd_Mo_purseEnd_75 (by decide) (fr_pc (pc' := 76) rfl ?_)
            refine fp_ior dd_Mo_purseEnd_76 (fr_pc (pc' := 77) rfl ?_)
            refine fr_nistore_n (i := 1) dd_Mo_purseEnd_77 rfl (Nat.le_of_ble_eq_true rfl) (fun _ => c1_r rfl) (fun y14 => fr_to (pc' := 78) (env' := [some (sf_rv p0), some (.int y14), some (.int b4.2), some (.int b8.2), some (.int x12)]) (stk' := []) rfl rfl rfl ?_)
            refine fr_niinc (i := 3) (x := b8.2) (w := (1 : Int32)) dd_Mo_purseEnd_78 rfl (by decide) (Nat.le_of_ble_eq_true rfl) (fun _ => c1_i rfl) (fun y15 => fr_to (pc' := 81) (env' := [some (sf_rv p0), some (.int y14), some (.int b4.2), some (.int y15), some (.int x12)]) (stk' := []) rfl rfl rfl ?_)
            refine fp_goto (tgt := 27) dd_Mo_purseEnd_81 rfl ?_
            refine fr_wk [true, true, true, true, false] ?_
            exact fr_ret rfl
          · refine fr_pc (pc' := 56) rfl ?_
            refine fp_iload (i := 4) (x := x12) dd_Mo_purseEnd_56 rfl (fr_pc (pc' := 58) rfl ?_)
            refine fp_aload_n (i := 0) (r := p0) dd_Mo_purseEnd_58 rfl rfl (fr_pc (pc' := 59) rfl ?_)
            refine fr_gR cl_11 2 (by decide) rfl sw_1074 dd_Mo_purseEnd_59 (fun x16 => fr_pc (pc' := 62) rfl ?_)
            refine fp_sipush (v := (193 : Int32)) dd_Mo_purseEnd_62 (by decide) (fr_pc (pc' := 65) rfl ?_)
            refine fr_aI0 dd_Mo_purseEnd_65 (fun x17 => fr_pc (pc' := 66) rfl ?_)
            refine fr_icmp_gt (tgt := 75) dd_Mo_purseEnd_66 rfl (fun _ => ?_) (fun _ => ?_)
            · refine fp_iconst (v := (0 : Int32)) dd_Mo_purseEnd_75 (by decide) (fr_pc (pc' := 76) rfl ?_)
              refine fp_ior dd_Mo_purseEnd_76 (fr_pc (pc' := 77) rfl ?_)
              refine fr_nistore_n (i := 1) dd_Mo_purseEnd_77 rfl (Nat.le_of_ble_eq_true rfl) (fun _ => c1_r rfl) (fun y19 => fr_to (pc' := 78) (env' := [some (sf_rv p0), some (.int y19), some (.int b4.2), some (.int b8.2), some (.int x12)]) (stk' := []) rfl rfl rfl ?_)
              refine fr_niinc (i := 3) (x := b8.2) (w := (1 : Int32)) dd_Mo_purseEnd_78 rfl (by decide) (Nat.le_of_ble_eq_true rfl) (fun _ => c1_i rfl) (fun y20 => fr_to (pc' := 81) (env' := [some (sf_rv p0), some (.int y19), some (.int b4.2), some (.int y20), some (.int x12)]) (stk' := []) rfl rfl rfl ?_)
              refine fp_goto (tgt := 27) dd_Mo_purseEnd_81 rfl ?_
              refine fr_wk [true, true, true, true, false] ?_
              exact fr_ret rfl
            · refine fr_pc (pc' := 69) rfl ?_
              refine fp_iconst (v := (1 : Int32)) dd_Mo_purseEnd_69 (by decide) (fr_pc (pc' := 70) rfl ?_)
              refine fp_iload_n (i := 3) (x := b8.2) dd_Mo_purseEnd_70 rfl rfl (fr_pc (pc' := 71) rfl ?_)
              refine fp_ishl dd_Mo_purseEnd_71 (fr_pc (pc' := 72) rfl ?_)
              refine fp_goto (tgt := 76) dd_Mo_purseEnd_72 rfl ?_
              refine fp_ior dd_Mo_purseEnd_76 (fr_pc (pc' := 77) rfl ?_)
              refine fr_nistore_n (i := 1) dd_Mo_purseEnd_77 rfl (Nat.le_of_ble_eq_true rfl) (fun _ => c1_r rfl) (fun y21 => fr_to (pc' := 78) (env' := [some (sf_rv p0), some (.int y21), some (.int b4.2), some (.int b8.2), some (.int x12)]) (stk' := []) rfl rfl rfl ?_)
              refine fr_niinc (i := 3) (x := b8.2) (w := (1 : Int32)) dd_Mo_purseEnd_78 rfl (by decide) (Nat.le_of_ble_eq_true rfl) (fun _ => c1_i rfl) (fun y22 => fr_to (pc' := 81) (env' := [some (sf_rv p0), some (.int y21), some (.int b4.2), some (.int y22), some (.int x12)]) (stk' := []) rfl rfl rfl ?_)
              refine fp_goto (tgt := 27) dd_Mo_purseEnd_81 rfl ?_
              refine fr_wk [true, true, true, true, false] ?_
              exact fr_ret rfl
      · refine fr_niinc (i := 2) (x := b4.2) (w := (1 : Int32)) dd_Mo_purseEnd_84 rfl (by decide) (Nat.le_of_ble_eq_true rfl) (fun _ => c1_i rfl) (fun y24 => fr_to (pc' := 87) (env' := [some (sf_rv p0), some (.int e23), some (.int y24), none, none]) (stk' := []) rfl rfl rfl ?_)
        refine fp_goto (tgt := 13) dd_Mo_purseEnd_87 rfl ?_
        exact fr_ret rfl
  · refine fp_iload_n (i := 1) (x := e25) dd_Mo_purseEnd_90 rfl rfl (fr_pc (pc' := 91) rfl ?_)
    exact fr_iret (v := e25) rfl rfl dd_Mo_purseEnd_91
theorem mt_Mo_keeps : sf_Mt ({ cls := "SplitFaresModel", name := "keeps", desc := "(I)V" } : Jvm.MethodName) prog_13_method_105_code 4 none 1 := ⟨sw_1631, sw_12, ⟨by decide, by decide, by decide +kernel⟩, by decide⟩
theorem dd_Mo_keeps_0 : decode prog_13_method_105_code 0 = .ok (.sipush 196, 3) := by decide +kernel
theorem dd_Mo_keeps_3 : decode prog_13_method_105_code 3 = .ok (.istore_n 2, 1) := by decide +kernel
theorem dd_Mo_keeps_4 : decode prog_13_method_105_code 4 = .ok (.aload_n 0, 1) := by decide +kernel
theorem dd_Mo_keeps_5 : decode prog_13_method_105_code 5 = .ok (.getfield 11, 3) := by decide +kernel
theorem dd_Mo_keeps_8 : decode prog_13_method_105_code 8 = .ok (.bipush 16, 2) := by decide +kernel
theorem dd_Mo_keeps_10 : decode prog_13_method_105_code 10 = .ok (.if_icmp .ne 43, 3) := by decide +kernel
theorem dd_Mo_keeps_13 : decode prog_13_method_105_code 13 = .ok (.iconst 0, 1) := by decide +kernel
theorem dd_Mo_keeps_14 : decode prog_13_method_105_code 14 = .ok (.istore_n 3, 1) := by decide +kernel
theorem dd_Mo_keeps_15 : decode prog_13_method_105_code 15 = .ok (.iload_n 3, 1) := by decide +kernel
theorem dd_Mo_keeps_16 : decode prog_13_method_105_code 16 = .ok (.bipush 15, 2) := by decide +kernel
theorem dd_Mo_keeps_18 : decode prog_13_method_105_code 18 = .ok (.iload_n 2, 1) := by decide +kernel
theorem dd_Mo_keeps_19 : decode prog_13_method_105_code 19 = .ok (.imul, 1) := by decide +kernel
theorem dd_Mo_keeps_20 : decode prog_13_method_105_code 20 = .ok (.if_icmp .ge 23, 3) := by decide +kernel
theorem dd_Mo_keeps_23 : decode prog_13_method_105_code 23 = .ok (.aload_n 0, 1) := by decide +kernel
theorem dd_Mo_keeps_24 : decode prog_13_method_105_code 24 = .ok (.getfield 94, 3) := by decide +kernel
theorem dd_Mo_keeps_27 : decode prog_13_method_105_code 27 = .ok (.iload_n 3, 1) := by decide +kernel
theorem dd_Mo_keeps_28 : decode prog_13_method_105_code 28 = .ok (.aload_n 0, 1) := by decide +kernel
theorem dd_Mo_keeps_29 : decode prog_13_method_105_code 29 = .ok (.getfield 94, 3) := by decide +kernel
theorem dd_Mo_keeps_32 : decode prog_13_method_105_code 32 = .ok (.iload_n 3, 1) := by decide +kernel
theorem dd_Mo_keeps_33 : decode prog_13_method_105_code 33 = .ok (.iload_n 2, 1) := by decide +kernel
theorem dd_Mo_keeps_34 : decode prog_13_method_105_code 34 = .ok (.iadd, 1) := by decide +kernel
theorem dd_Mo_keeps_35 : decode prog_13_method_105_code 35 = .ok (.iaload, 1) := by decide +kernel
theorem dd_Mo_keeps_36 : decode prog_13_method_105_code 36 = .ok (.iastore, 1) := by decide +kernel
theorem dd_Mo_keeps_37 : decode prog_13_method_105_code 37 = .ok (.iinc 3 1, 3) := by decide +kernel
theorem dd_Mo_keeps_40 : decode prog_13_method_105_code 40 = .ok (.goto (-25), 3) := by decide +kernel
theorem dd_Mo_keeps_43 : decode prog_13_method_105_code 43 = .ok (.aload_n 0, 1) := by decide +kernel
theorem dd_Mo_keeps_44 : decode prog_13_method_105_code 44 = .ok (.dup, 1) := by decide +kernel
theorem dd_Mo_keeps_45 : decode prog_13_method_105_code 45 = .ok (.getfield 11, 3) := by decide +kernel
theorem dd_Mo_keeps_48 : decode prog_13_method_105_code 48 = .ok (.iconst 1, 1) := by decide +kernel
theorem dd_Mo_keeps_49 : decode prog_13_method_105_code 49 = .ok (.isub, 1) := by decide +kernel
theorem dd_Mo_keeps_50 : decode prog_13_method_105_code 50 = .ok (.putfield 11, 3) := by decide +kernel
theorem dd_Mo_keeps_53 : decode prog_13_method_105_code 53 = .ok (.iconst 0, 1) := by decide +kernel
theorem dd_Mo_keeps_54 : decode prog_13_method_105_code 54 = .ok (.istore_n 3, 1) := by decide +kernel
theorem dd_Mo_keeps_55 : decode prog_13_method_105_code 55 = .ok (.iload_n 3, 1) := by decide +kernel
theorem dd_Mo_keeps_56 : decode prog_13_method_105_code 56 = .ok (.sipush 195, 3) := by decide +kernel
theorem dd_Mo_keeps_59 : decode prog_13_method_105_code 59 = .ok (.if_icmp .ge 28, 3) := by decide +kernel
theorem dd_Mo_keeps_62 : decode prog_13_method_105_code 62 = .ok (.aload_n 0, 1) := by decide +kernel
theorem dd_Mo_keeps_63 : decode prog_13_method_105_code 63 = .ok (.getfield 94, 3) := by decide +kernel
theorem dd_Mo_keeps_66 : decode prog_13_method_105_code 66 = .ok (.iload_n 2, 1) := by decide +kernel
theorem dd_Mo_keeps_67 : decode prog_13_method_105_code 67 = .ok (.aload_n 0, 1) := by decide +kernel
theorem dd_Mo_keeps_68 : decode prog_13_method_105_code 68 = .ok (.getfield 11, 3) := by decide +kernel
theorem dd_Mo_keeps_71 : decode prog_13_method_105_code 71 = .ok (.imul, 1) := by decide +kernel
theorem dd_Mo_keeps_72 : decode prog_13_method_105_code 72 = .ok (.iload_n 3, 1) := by decide +kernel
theorem dd_Mo_keeps_73 : decode prog_13_method_105_code 73 = .ok (.iadd, 1) := by decide +kernel
theorem dd_Mo_keeps_74 : decode prog_13_method_105_code 74 = .ok (.aload_n 0, 1) := by decide +kernel
theorem dd_Mo_keeps_75 : decode prog_13_method_105_code 75 = .ok (.getfield 32, 3) := by decide +kernel
theorem dd_Mo_keeps_78 : decode prog_13_method_105_code 78 = .ok (.iload_n 3, 1) := by decide +kernel
theorem dd_Mo_keeps_79 : decode prog_13_method_105_code 79 = .ok (.iaload, 1) := by decide +kernel
theorem dd_Mo_keeps_80 : decode prog_13_method_105_code 80 = .ok (.iastore, 1) := by decide +kernel
theorem dd_Mo_keeps_81 : decode prog_13_method_105_code 81 = .ok (.iinc 3 1, 3) := by decide +kernel
theorem dd_Mo_keeps_84 : decode prog_13_method_105_code 84 = .ok (.goto (-29), 3) := by decide +kernel
theorem dd_Mo_keeps_87 : decode prog_13_method_105_code 87 = .ok (.aload_n 0, 1) := by decide +kernel
theorem dd_Mo_keeps_88 : decode prog_13_method_105_code 88 = .ok (.getfield 94, 3) := by decide +kernel
theorem dd_Mo_keeps_91 : decode prog_13_method_105_code 91 = .ok (.iload_n 2, 1) := by decide +kernel
theorem dd_Mo_keeps_92 : decode prog_13_method_105_code 92 = .ok (.aload_n 0, 1) := by decide +kernel
theorem dd_Mo_keeps_93 : decode prog_13_method_105_code 93 = .ok (.getfield 11, 3) := by decide +kernel
theorem dd_Mo_keeps_96 : decode prog_13_method_105_code 96 = .ok (.imul, 1) := by decide +kernel
theorem dd_Mo_keeps_97 : decode prog_13_method_105_code 97 = .ok (.sipush 195, 3) := by decide +kernel
theorem dd_Mo_keeps_100 : decode prog_13_method_105_code 100 = .ok (.iadd, 1) := by decide +kernel
theorem dd_Mo_keeps_101 : decode prog_13_method_105_code 101 = .ok (.iload_n 1, 1) := by decide +kernel
theorem dd_Mo_keeps_102 : decode prog_13_method_105_code 102 = .ok (.iastore, 1) := by decide +kernel
theorem dd_Mo_keeps_103 : decode prog_13_method_105_code 103 = .ok (.aload_n 0, 1) := by decide +kernel
theorem dd_Mo_keeps_104 : decode prog_13_method_105_code 104 = .ok (.dup, 1) := by decide +kernel
theorem dd_Mo_keeps_105 : decode prog_13_method_105_code 105 = .ok (.getfield 11, 3) := by decide +kernel
theorem dd_Mo_keeps_108 : decode prog_13_method_105_code 108 = .ok (.iconst 1, 1) := by decide +kernel
theorem dd_Mo_keeps_109 : decode prog_13_method_105_code 109 = .ok (.iadd, 1) := by decide +kernel
theorem dd_Mo_keeps_110 : decode prog_13_method_105_code 110 = .ok (.putfield 11, 3) := by decide +kernel
theorem dd_Mo_keeps_113 : decode prog_13_method_105_code 113 = .ok (.return_, 1) := by decide +kernel
def jx_Mo_keeps (p0 : Option Nat) (p1 : Int32) : sf_M (Unit) :=
  sf_bnd (sf_gI 11 40 p0) fun x1 =>
  sf_bnd (α := (Unit)) (
  if x1 = (16 : Int32) then (
  sf_bnd (sf_loop (β := (Int32)) (γ := (Unit)) (fun b3 =>
  if ((15 : Int32) * (196 : Int32)) ≤ b3 then (
  sf_ret (.inr ())
  ) else (
  sf_bnd (sf_gR 11 38 p0) fun x5 =>
  sf_bnd (sf_gR 11 38 p0) fun x6 =>
  sf_bnd (sf_aI 0 x6 (b3 + (196 : Int32))) fun x7 =>
  sf_bnd (sf_sI 0 x5 b3 x7) fun _ =>
  sf_bnd (sf_ret (b3 + (1 : Int32))) fun y8 =>
  sf_ret (.inl y8)
  )
  ) sf_fuel (0 : Int32)) (fun e9 =>
  sf_bnd (sf_gI 11 40 p0) fun x10 =>
  sf_bnd (sf_pI 11 40 p0 (x10 - (1 : Int32))) fun _ =>
  sf_ret ()
  )
  ) else (
  sf_ret ()
  )
  ) (fun v11 =>
  sf_bnd (sf_loop (β := (Int32)) (γ := (Unit)) (fun b12 =>
  if (195 : Int32) ≤ b12 then (
  sf_ret (.inr ())
  ) else (
  sf_bnd (sf_gR 11 38 p0) fun x14 =>
  sf_bnd (sf_gI 11 40 p0) fun x15 =>
  sf_bnd (sf_gR 11 2 p0) fun x16 =>
  sf_bnd (sf_aI 0 x16 b12) fun x17 =>
  sf_bnd (sf_sI 0 x14 (((196 : Int32) * x15) + b12) x17) fun _ =>
  sf_bnd (sf_ret (b12 + (1 : Int32))) fun y18 =>
  sf_ret (.inl y18)
  )
  ) sf_fuel (0 : Int32)) (fun e19 =>
  sf_bnd (sf_gR 11 38 p0) fun x20 =>
  sf_bnd (sf_gI 11 40 p0) fun x21 =>
  sf_bnd (sf_sI 0 x20 (((196 : Int32) * x21) + (195 : Int32)) p1) fun _ =>
  sf_bnd (sf_gI 11 40 p0) fun x22 =>
  sf_bnd (sf_pI 11 40 p0 (x22 + (1 : Int32))) fun _ =>
  sf_ret ()
  )
  )
set_option maxRecDepth 20000 in
set_option maxHeartbeats 4000000 in
theorem ok_Mo_keeps (p0 : Option Nat) (p1 : Int32) : sf_Ok ({ cls := "SplitFaresModel", name := "keeps", desc := "(I)V" } : Jvm.MethodName) prog_13_method_105_code 4 none 0 [sf_rv p0, .int p1] (jx_Mo_keeps p0 p1) (fun _ => none) := by
  refine sf_Ok.of (env := [some (sf_rv p0), some (.int p1), none, none]) (plainFor_of_name (by decide)) [false, false] (fun G => ⟨pk_r, pk_i, trivial⟩) (Nat.le_of_ble_eq_true rfl) rfl (fun X => ?_)
  unfold jx_Mo_keeps
  refine fp_sipush (v := (196 : Int32)) dd_Mo_keeps_0 (by decide) (fr_pc (pc' := 3) rfl ?_)
  refine fp_istore_n (i := 2) dd_Mo_keeps_3 rfl (Nat.le_of_ble_eq_true rfl) (fun _ => c1_i rfl) (fr_to (pc' := 4) (env' := [some (sf_rv p0), some (.int p1), some (.int (196 : Int32)), none]) (stk' := []) rfl rfl rfl ?_)
  refine fp_aload_n (i := 0) (r := p0) dd_Mo_keeps_4 rfl rfl (fr_pc (pc' := 5) rfl ?_)
  refine fr_gI cl_11 40 (by decide) rfl sw_1112 dd_Mo_keeps_5 (fun x1 => fr_pc (pc' := 8) rfl ?_)
  refine fp_bipush (v := (16 : Int32)) dd_Mo_keeps_8 (by decide) (fr_pc (pc' := 10) rfl ?_)
  refine fr_bnd (l1 := (fun (v11 : (Unit)) => sf_p 53 [some (sf_rv p0), some (.int p1), some (.int (196 : Int32)), none] [])) ?_ (fun v11 => ?_)
  · refine fr_icmp_ne (tgt := 53) dd_Mo_keeps_10 rfl (fun _ => ?_) (fun _ => ?_)
    · refine fr_pc (pc' := 13) rfl ?_
      refine fp_iconst (v := (0 : Int32)) dd_Mo_keeps_13 (by decide) (fr_pc (pc' := 14) rfl ?_)
      refine fp_istore_n (i := 3) dd_Mo_keeps_14 rfl (Nat.le_of_ble_eq_true rfl) (fun _ => c1_i rfl) (fr_to (pc' := 15) (env' := [some (sf_rv p0), some (.int p1), some (.int (196 : Int32)), some (.int (0 : Int32))]) (stk' := []) rfl rfl rfl ?_)
      refine fr_to (pc' := 15) (env' := [some (sf_rv p0), some (.int p1), some (.int (196 : Int32)), some (.int (0 : Int32))]) (stk' := []) rfl rfl rfl ?_
      refine fr_bnd (l1 := (fun (e9 : (Unit)) => sf_p 43 [some (sf_rv p0), some (.int p1), some (.int (196 : Int32)), none] [])) (fr_loop (Lb := (fun (b3 : (Int32)) => sf_p 15 [some (sf_rv p0), some (.int p1), some (.int (196 : Int32)), some (.int b3)] [])) (fun b3 => ?_) _ _) (fun e9 => ?_)
      · refine fp_iload_n (i := 3) (x := b3) dd_Mo_keeps_15 rfl rfl (fr_pc (pc' := 16) rfl ?_)
        refine fp_bipush (v := (15 : Int32)) dd_Mo_keeps_16 (by decide) (fr_pc (pc' := 18) rfl ?_)
        refine fp_iload_n (i := 2) (x := (196 : Int32)) dd_Mo_keeps_18 rfl rfl (fr_pc (pc' := 19) rfl ?_)
        refine fp_imul dd_Mo_keeps_19 (fr_pc (pc' := 20) rfl ?_)
        refine fr_icmp_ge (tgt := 43) dd_Mo_keeps_20 rfl (fun _ => ?_) (fun _ => ?_)
        · refine fr_wk [true, true, true, false] ?_
          exact fr_ret rfl
        · refine fr_pc (pc' := 23) rfl ?_
          refine fp_aload_n (i := 0) (r := p0) dd_Mo_keeps_23 rfl rfl (fr_pc (pc' := 24) rfl ?_)
          refine fr_gR cl_11 38 (by decide) rfl sw_1110 dd_Mo_keeps_24 (fun x5 => fr_pc (pc' := 27) rfl ?_)
          refine fp_iload_n (i := 3) (x := b3) dd_Mo_keeps_27 rfl rfl (fr_pc (pc' := 28) rfl ?_)
          refine fp_aload_n (i := 0) (r := p0) dd_Mo_keeps_28 rfl rfl (fr_pc (pc' := 29) rfl ?_)
          refine fr_gR cl_11 38 (by decide) rfl sw_1110 dd_Mo_keeps_29 (fun x6 => fr_pc (pc' := 32) rfl ?_)
          refine fp_iload_n (i := 3) (x := b3) dd_Mo_keeps_32 rfl rfl (fr_pc (pc' := 33) rfl ?_)
          refine fp_iload_n (i := 2) (x := (196 : Int32)) dd_Mo_keeps_33 rfl rfl (fr_pc (pc' := 34) rfl ?_)
          refine fp_iadd dd_Mo_keeps_34 (fr_pc (pc' := 35) rfl ?_)
          refine fr_aI0 dd_Mo_keeps_35 (fun x7 => fr_pc (pc' := 36) rfl ?_)
          refine fr_sI0 dd_Mo_keeps_36 (fr_pc (pc' := 37) rfl ?_)
          refine fr_niinc (i := 3) (x := b3) (w := (1 : Int32)) dd_Mo_keeps_37 rfl (by decide) (Nat.le_of_ble_eq_true rfl) (fun _ => c1_i rfl) (fun y8 => fr_to (pc' := 40) (env' := [some (sf_rv p0), some (.int p1), some (.int (196 : Int32)), some (.int y8)]) (stk' := []) rfl rfl rfl ?_)
          refine fp_goto (tgt := 15) dd_Mo_keeps_40 rfl ?_
          exact fr_ret rfl
      · refine fp_aload_n (i := 0) (r := p0) dd_Mo_keeps_43 rfl rfl (fr_pc (pc' := 44) rfl ?_)
        refine fp_dup_r dd_Mo_keeps_44 (fr_pc (pc' := 45) rfl ?_)
        refine fr_gI cl_11 40 (by decide) rfl sw_1112 dd_Mo_keeps_45 (fun x10 => fr_pc (pc' := 48) rfl ?_)
        refine fp_iconst (v := (1 : Int32)) dd_Mo_keeps_48 (by decide) (fr_pc (pc' := 49) rfl ?_)
        refine fp_isub dd_Mo_keeps_49 (fr_pc (pc' := 50) rfl ?_)
        refine fr_pI cl_11 40 (by decide) rfl sw_1112 rfl ⟨rfl, rfl⟩ dd_Mo_keeps_50 (fr_pc (pc' := 53) rfl ?_)
        exact fr_ret rfl
    · exact fr_ret rfl
  · refine fp_iconst (v := (0 : Int32)) dd_Mo_keeps_53 (by decide) (fr_pc (pc' := 54) rfl ?_)
    refine fp_istore_n (i := 3) dd_Mo_keeps_54 rfl (Nat.le_of_ble_eq_true rfl) (fun _ => c1_i rfl) (fr_to (pc' := 55) (env' := [some (sf_rv p0), some (.int p1), some (.int (196 : Int32)), some (.int (0 : Int32))]) (stk' := []) rfl rfl rfl ?_)
    refine fr_to (pc' := 55) (env' := [some (sf_rv p0), some (.int p1), some (.int (196 : Int32)), some (.int (0 : Int32))]) (stk' := []) rfl rfl rfl ?_
    refine fr_bnd (l1 := (fun (e19 : (Unit)) => sf_p 87 [some (sf_rv p0), some (.int p1), some (.int (196 : Int32)), none] [])) (fr_loop (Lb := (fun (b12 : (Int32)) => sf_p 55 [some (sf_rv p0), some (.int p1), some (.int (196 : Int32)), some (.int b12)] [])) (fun b12 => ?_) _ _) (fun e19 => ?_)
    · refine fp_iload_n (i := 3) (x := b12) dd_Mo_keeps_55 rfl rfl (fr_pc (pc' := 56) rfl ?_)
      refine fp_sipush (v := (195 : Int32)) dd_Mo_keeps_56 (by decide) (fr_pc (pc' := 59) rfl ?_)
      refine fr_icmp_ge (tgt := 87) dd_Mo_keeps_59 rfl (fun _ => ?_) (fun _ => ?_)
      · refine fr_wk [true, true, true, false] ?_
        exact fr_ret rfl
      · refine fr_pc (pc' := 62) rfl ?_
        refine fp_aload_n (i := 0) (r := p0) dd_Mo_keeps_62 rfl rfl (fr_pc (pc' := 63) rfl ?_)
        refine fr_gR cl_11 38 (by decide) rfl sw_1110 dd_Mo_keeps_63 (fun x14 => fr_pc (pc' := 66) rfl ?_)
        refine fp_iload_n (i := 2) (x := (196 : Int32)) dd_Mo_keeps_66 rfl rfl (fr_pc (pc' := 67) rfl ?_)
        refine fp_aload_n (i := 0) (r := p0) dd_Mo_keeps_67 rfl rfl (fr_pc (pc' := 68) rfl ?_)
        refine fr_gI cl_11 40 (by decide) rfl sw_1112 dd_Mo_keeps_68 (fun x15 => fr_pc (pc' := 71) rfl ?_)
        refine fp_imul dd_Mo_keeps_71 (fr_pc (pc' := 72) rfl ?_)
        refine fp_iload_n (i := 3) (x := b12) dd_Mo_keeps_72 rfl rfl (fr_pc (pc' := 73) rfl ?_)
        refine fp_iadd dd_Mo_keeps_73 (fr_pc (pc' := 74) rfl ?_)
        refine fp_aload_n (i := 0) (r := p0) dd_Mo_keeps_74 rfl rfl (fr_pc (pc' := 75) rfl ?_)
        refine fr_gR cl_11 2 (by decide) rfl sw_1074 dd_Mo_keeps_75 (fun x16 => fr_pc (pc' := 78) rfl ?_)
        refine fp_iload_n (i := 3) (x := b12) dd_Mo_keeps_78 rfl rfl (fr_pc (pc' := 79) rfl ?_)
        refine fr_aI0 dd_Mo_keeps_79 (fun x17 => fr_pc (pc' := 80) rfl ?_)
        refine fr_sI0 dd_Mo_keeps_80 (fr_pc (pc' := 81) rfl ?_)
        refine fr_niinc (i := 3) (x := b12) (w := (1 : Int32)) dd_Mo_keeps_81 rfl (by decide) (Nat.le_of_ble_eq_true rfl) (fun _ => c1_i rfl) (fun y18 => fr_to (pc' := 84) (env' := [some (sf_rv p0), some (.int p1), some (.int (196 : Int32)), some (.int y18)]) (stk' := []) rfl rfl rfl ?_)
        refine fp_goto (tgt := 55) dd_Mo_keeps_84 rfl ?_
        exact fr_ret rfl
    · refine fp_aload_n (i := 0) (r := p0) dd_Mo_keeps_87 rfl rfl (fr_pc (pc' := 88) rfl ?_)
      refine fr_gR cl_11 38 (by decide) rfl sw_1110 dd_Mo_keeps_88 (fun x20 => fr_pc (pc' := 91) rfl ?_)
      refine fp_iload_n (i := 2) (x := (196 : Int32)) dd_Mo_keeps_91 rfl rfl (fr_pc (pc' := 92) rfl ?_)
      refine fp_aload_n (i := 0) (r := p0) dd_Mo_keeps_92 rfl rfl (fr_pc (pc' := 93) rfl ?_)
      refine fr_gI cl_11 40 (by decide) rfl sw_1112 dd_Mo_keeps_93 (fun x21 => fr_pc (pc' := 96) rfl ?_)
      refine fp_imul dd_Mo_keeps_96 (fr_pc (pc' := 97) rfl ?_)
      refine fp_sipush (v := (195 : Int32)) dd_Mo_keeps_97 (by decide) (fr_pc (pc' := 100) rfl ?_)
      refine fp_iadd dd_Mo_keeps_100 (fr_pc (pc' := 101) rfl ?_)
      refine fp_iload_n (i := 1) (x := p1) dd_Mo_keeps_101 rfl rfl (fr_pc (pc' := 102) rfl ?_)
      refine fr_sI0 dd_Mo_keeps_102 (fr_pc (pc' := 103) rfl ?_)
      refine fp_aload_n (i := 0) (r := p0) dd_Mo_keeps_103 rfl rfl (fr_pc (pc' := 104) rfl ?_)
      refine fp_dup_r dd_Mo_keeps_104 (fr_pc (pc' := 105) rfl ?_)
      refine fr_gI cl_11 40 (by decide) rfl sw_1112 dd_Mo_keeps_105 (fun x22 => fr_pc (pc' := 108) rfl ?_)
      refine fp_iconst (v := (1 : Int32)) dd_Mo_keeps_108 (by decide) (fr_pc (pc' := 109) rfl ?_)
      refine fp_iadd dd_Mo_keeps_109 (fr_pc (pc' := 110) rfl ?_)
      refine fr_pI cl_11 40 (by decide) rfl sw_1112 rfl ⟨rfl, rfl⟩ dd_Mo_keeps_110 (fr_pc (pc' := 113) rfl ?_)
      exact fr_vret rfl rfl dd_Mo_keeps_113
theorem mt_Mo_undo : sf_Mt ({ cls := "SplitFaresModel", name := "undo", desc := "()I" } : Jvm.MethodName) prog_13_method_106_code 3 (some .int) 0 := ⟨sw_1615, sw_12, ⟨by decide, by decide, by decide +kernel⟩, by decide⟩
theorem dd_Mo_undo_0 : decode prog_13_method_106_code 0 = .ok (.aload_n 0, 1) := by decide +kernel
theorem dd_Mo_undo_1 : decode prog_13_method_106_code 1 = .ok (.getfield 11, 3) := by decide +kernel
theorem dd_Mo_undo_4 : decode prog_13_method_106_code 4 = .ok (.ifCond .ne 10, 3) := by decide +kernel
theorem dd_Mo_undo_7 : decode prog_13_method_106_code 7 = .ok (.aload_n 0, 1) := by decide +kernel
theorem dd_Mo_undo_8 : decode prog_13_method_106_code 8 = .ok (.bipush (-3), 2) := by decide +kernel
theorem dd_Mo_undo_10 : decode prog_13_method_106_code 10 = .ok (.invokevirtual 116, 3) := by decide +kernel
theorem dd_Mo_undo_13 : decode prog_13_method_106_code 13 = .ok (.ireturn, 1) := by decide +kernel
theorem dd_Mo_undo_14 : decode prog_13_method_106_code 14 = .ok (.aload_n 0, 1) := by decide +kernel
theorem dd_Mo_undo_15 : decode prog_13_method_106_code 15 = .ok (.dup, 1) := by decide +kernel
theorem dd_Mo_undo_16 : decode prog_13_method_106_code 16 = .ok (.getfield 11, 3) := by decide +kernel
theorem dd_Mo_undo_19 : decode prog_13_method_106_code 19 = .ok (.iconst 1, 1) := by decide +kernel
theorem dd_Mo_undo_20 : decode prog_13_method_106_code 20 = .ok (.isub, 1) := by decide +kernel
theorem dd_Mo_undo_21 : decode prog_13_method_106_code 21 = .ok (.putfield 11, 3) := by decide +kernel
theorem dd_Mo_undo_24 : decode prog_13_method_106_code 24 = .ok (.sipush 196, 3) := by decide +kernel
theorem dd_Mo_undo_27 : decode prog_13_method_106_code 27 = .ok (.aload_n 0, 1) := by decide +kernel
theorem dd_Mo_undo_28 : decode prog_13_method_106_code 28 = .ok (.getfield 11, 3) := by decide +kernel
theorem dd_Mo_undo_31 : decode prog_13_method_106_code 31 = .ok (.imul, 1) := by decide +kernel
theorem dd_Mo_undo_32 : decode prog_13_method_106_code 32 = .ok (.istore_n 1, 1) := by decide +kernel
theorem dd_Mo_undo_33 : decode prog_13_method_106_code 33 = .ok (.iconst 0, 1) := by decide +kernel
theorem dd_Mo_undo_34 : decode prog_13_method_106_code 34 = .ok (.istore_n 2, 1) := by decide +kernel
theorem dd_Mo_undo_35 : decode prog_13_method_106_code 35 = .ok (.iload_n 2, 1) := by decide +kernel
theorem dd_Mo_undo_36 : decode prog_13_method_106_code 36 = .ok (.sipush 195, 3) := by decide +kernel
theorem dd_Mo_undo_39 : decode prog_13_method_106_code 39 = .ok (.if_icmp .ge 23, 3) := by decide +kernel
theorem dd_Mo_undo_42 : decode prog_13_method_106_code 42 = .ok (.aload_n 0, 1) := by decide +kernel
theorem dd_Mo_undo_43 : decode prog_13_method_106_code 43 = .ok (.getfield 32, 3) := by decide +kernel
theorem dd_Mo_undo_46 : decode prog_13_method_106_code 46 = .ok (.iload_n 2, 1) := by decide +kernel
theorem dd_Mo_undo_47 : decode prog_13_method_106_code 47 = .ok (.aload_n 0, 1) := by decide +kernel
theorem dd_Mo_undo_48 : decode prog_13_method_106_code 48 = .ok (.getfield 94, 3) := by decide +kernel
theorem dd_Mo_undo_51 : decode prog_13_method_106_code 51 = .ok (.iload_n 1, 1) := by decide +kernel
theorem dd_Mo_undo_52 : decode prog_13_method_106_code 52 = .ok (.iload_n 2, 1) := by decide +kernel
theorem dd_Mo_undo_53 : decode prog_13_method_106_code 53 = .ok (.iadd, 1) := by decide +kernel
theorem dd_Mo_undo_54 : decode prog_13_method_106_code 54 = .ok (.iaload, 1) := by decide +kernel
theorem dd_Mo_undo_55 : decode prog_13_method_106_code 55 = .ok (.iastore, 1) := by decide +kernel
theorem dd_Mo_undo_56 : decode prog_13_method_106_code 56 = .ok (.iinc 2 1, 3) := by decide +kernel
theorem dd_Mo_undo_59 : decode prog_13_method_106_code 59 = .ok (.goto (-24), 3) := by decide +kernel
theorem dd_Mo_undo_62 : decode prog_13_method_106_code 62 = .ok (.aload_n 0, 1) := by decide +kernel
theorem dd_Mo_undo_63 : decode prog_13_method_106_code 63 = .ok (.aload_n 0, 1) := by decide +kernel
theorem dd_Mo_undo_64 : decode prog_13_method_106_code 64 = .ok (.getfield 94, 3) := by decide +kernel
theorem dd_Mo_undo_67 : decode prog_13_method_106_code 67 = .ok (.iload_n 1, 1) := by decide +kernel
theorem dd_Mo_undo_68 : decode prog_13_method_106_code 68 = .ok (.sipush 195, 3) := by decide +kernel
theorem dd_Mo_undo_71 : decode prog_13_method_106_code 71 = .ok (.iadd, 1) := by decide +kernel
theorem dd_Mo_undo_72 : decode prog_13_method_106_code 72 = .ok (.iaload, 1) := by decide +kernel
theorem dd_Mo_undo_73 : decode prog_13_method_106_code 73 = .ok (.invokevirtual 14, 3) := by decide +kernel
theorem dd_Mo_undo_76 : decode prog_13_method_106_code 76 = .ok (.ireturn, 1) := by decide +kernel
def jx_Mo_undo (p0 : Option Nat) : sf_M (Int32) :=
  sf_bnd (sf_gI 11 40 p0) fun x1 =>
  if x1 = 0 then (
  sf_bnd (sf_rc 11 p0 (jx_Mo_refuses p0 (-3 : Int32))) fun x3 =>
  sf_ret x3
  ) else (
  sf_bnd (sf_gI 11 40 p0) fun x4 =>
  sf_bnd (sf_pI 11 40 p0 (x4 - (1 : Int32))) fun _ =>
  sf_bnd (sf_gI 11 40 p0) fun x5 =>
  sf_bnd (sf_ret (((196 : Int32) * x5))) fun y6 =>
  sf_bnd (sf_loop (β := (Int32)) (γ := (Unit)) (fun b7 =>
  if (195 : Int32) ≤ b7 then (
  sf_ret (.inr ())
  ) else (
  sf_bnd (sf_gR 11 2 p0) fun x9 =>
  sf_bnd (sf_gR 11 38 p0) fun x10 =>
  sf_bnd (sf_aI 0 x10 (y6 + b7)) fun x11 =>
  sf_bnd (sf_sI 0 x9 b7 x11) fun _ =>
  sf_bnd (sf_ret (b7 + (1 : Int32))) fun y12 =>
  sf_ret (.inl y12)
  )
  ) sf_fuel (0 : Int32)) (fun e13 =>
  sf_bnd (sf_gR 11 38 p0) fun x14 =>
  sf_bnd (sf_aI 0 x14 (y6 + (195 : Int32))) fun x15 =>
  sf_bnd (sf_rc 11 p0 (jx_Mo_good p0 x15)) fun x16 =>
  sf_ret x16
  )
  )
set_option maxRecDepth 20000 in
set_option maxHeartbeats 4000000 in
theorem ok_Mo_undo (p0 : Option Nat) : sf_Ok ({ cls := "SplitFaresModel", name := "undo", desc := "()I" } : Jvm.MethodName) prog_13_method_106_code 3 (some .int) 1 [sf_rv p0] (jx_Mo_undo p0) (fun r => some (.int r)) := by
  refine sf_Ok.of (env := [some (sf_rv p0), none, none]) (plainFor_of_name (by decide)) [false] (fun G => ⟨pk_r, trivial⟩) (Nat.le_of_ble_eq_true rfl) rfl (fun X => ?_)
  unfold jx_Mo_undo
  refine fp_aload_n (i := 0) (r := p0) dd_Mo_undo_0 rfl rfl (fr_pc (pc' := 1) rfl ?_)
  refine fr_gI cl_11 40 (by decide) rfl sw_1112 dd_Mo_undo_1 (fun x1 => fr_pc (pc' := 4) rfl ?_)
  refine fr_if_ne (tgt := 14) dd_Mo_undo_4 rfl (fun _ => ?_) (fun _ => ?_)
  · refine fr_pc (pc' := 7) rfl ?_
    refine fp_aload_n (i := 0) (r := p0) dd_Mo_undo_7 rfl rfl (fr_pc (pc' := 8) rfl ?_)
    refine fp_bipush (v := (-3 : Int32)) dd_Mo_undo_8 (by decide) (fr_pc (pc' := 10) rfl ?_)
    refine fr_callV (stk := []) (As := [.int (-3 : Int32)]) cl_11 (ok_Mo_refuses p0 (-3 : Int32)) mt_Mo_refuses rfl rfl sw_1240 sw_1242 sp_27 (by decide) (Nat.le_of_ble_eq_true rfl) dd_Mo_undo_10 (fun x3 => fr_to (pc' := 13) (env' := [some (sf_rv p0), none, none]) (stk' := [.int x3]) rfl rfl rfl ?_)
    exact fr_iret (v := x3) rfl rfl dd_Mo_undo_13
  · refine fp_aload_n (i := 0) (r := p0) dd_Mo_undo_14 rfl rfl (fr_pc (pc' := 15) rfl ?_)
    refine fp_dup_r dd_Mo_undo_15 (fr_pc (pc' := 16) rfl ?_)
    refine fr_gI cl_11 40 (by decide) rfl sw_1112 dd_Mo_undo_16 (fun x4 => fr_pc (pc' := 19) rfl ?_)
    refine fp_iconst (v := (1 : Int32)) dd_Mo_undo_19 (by decide) (fr_pc (pc' := 20) rfl ?_)
    refine fp_isub dd_Mo_undo_20 (fr_pc (pc' := 21) rfl ?_)
    refine fr_pI cl_11 40 (by decide) rfl sw_1112 rfl ⟨rfl, rfl⟩ dd_Mo_undo_21 (fr_pc (pc' := 24) rfl ?_)
    refine fp_sipush (v := (196 : Int32)) dd_Mo_undo_24 (by decide) (fr_pc (pc' := 27) rfl ?_)
    refine fp_aload_n (i := 0) (r := p0) dd_Mo_undo_27 rfl rfl (fr_pc (pc' := 28) rfl ?_)
    refine fr_gI cl_11 40 (by decide) rfl sw_1112 dd_Mo_undo_28 (fun x5 => fr_pc (pc' := 31) rfl ?_)
    refine fp_imul dd_Mo_undo_31 (fr_pc (pc' := 32) rfl ?_)
    refine fr_nistore_n (i := 1) dd_Mo_undo_32 rfl (Nat.le_of_ble_eq_true rfl) (fun _ => c1_r rfl) (fun y6 => fr_to (pc' := 33) (env' := [some (sf_rv p0), some (.int y6), none]) (stk' := []) rfl rfl rfl ?_)
    refine fp_iconst (v := (0 : Int32)) dd_Mo_undo_33 (by decide) (fr_pc (pc' := 34) rfl ?_)
    refine fp_istore_n (i := 2) dd_Mo_undo_34 rfl (Nat.le_of_ble_eq_true rfl) (fun _ => c1_i rfl) (fr_to (pc' := 35) (env' := [some (sf_rv p0), some (.int y6), some (.int (0 : Int32))]) (stk' := []) rfl rfl rfl ?_)
    refine fr_to (pc' := 35) (env' := [some (sf_rv p0), some (.int y6), some (.int (0 : Int32))]) (stk' := []) rfl rfl rfl ?_
    refine fr_bnd (l1 := (fun (e13 : (Unit)) => sf_p 62 [some (sf_rv p0), some (.int y6), none] [])) (fr_loop (Lb := (fun (b7 : (Int32)) => sf_p 35 [some (sf_rv p0), some (.int y6), some (.int b7)] [])) (fun b7 => ?_) _ _) (fun e13 => ?_)
    · refine fp_iload_n (i := 2) (x := b7) dd_Mo_undo_35 rfl rfl (fr_pc (pc' := 36) rfl ?_)
      refine fp_sipush (v := (195 : Int32)) dd_Mo_undo_36 (by decide) (fr_pc (pc' := 39) rfl ?_)
      refine fr_icmp_ge (tgt := 62) dd_Mo_undo_39 rfl (fun _ => ?_) (fun _ => ?_)
      · refine fr_wk [true, true, false] ?_
        exact fr_ret rfl
      · refine fr_pc (pc' := 42) rfl ?_
        refine fp_aload_n (i := 0) (r := p0) dd_Mo_undo_42 rfl rfl (fr_pc (pc' := 43) rfl ?_)
        refine fr_gR cl_11 2 (by decide) rfl sw_1074 dd_Mo_undo_43 (fun x9 => fr_pc (pc' := 46) rfl ?_)
        refine fp_iload_n (i := 2) (x := b7) dd_Mo_undo_46 rfl rfl (fr_pc (pc' := 47) rfl ?_)
        refine fp_aload_n (i := 0) (r := p0) dd_Mo_undo_47 rfl rfl (fr_pc (pc' := 48) rfl ?_)
        refine fr_gR cl_11 38 (by decide) rfl sw_1110 dd_Mo_undo_48 (fun x10 => fr_pc (pc' := 51) rfl ?_)
        refine fp_iload_n (i := 1) (x := y6) dd_Mo_undo_51 rfl rfl (fr_pc (pc' := 52) rfl ?_)
        refine fp_iload_n (i := 2) (x := b7) dd_Mo_undo_52 rfl rfl (fr_pc (pc' := 53) rfl ?_)
        refine fp_iadd dd_Mo_undo_53 (fr_pc (pc' := 54) rfl ?_)
        refine fr_aI0 dd_Mo_undo_54 (fun x11 => fr_pc (pc' := 55) rfl ?_)
        refine fr_sI0 dd_Mo_undo_55 (fr_pc (pc' := 56) rfl ?_)
        refine fr_niinc (i := 2) (x := b7) (w := (1 : Int32)) dd_Mo_undo_56 rfl (by decide) (Nat.le_of_ble_eq_true rfl) (fun _ => c1_i rfl) (fun y12 => fr_to (pc' := 59) (env' := [some (sf_rv p0), some (.int y6), some (.int y12)]) (stk' := []) rfl rfl rfl ?_)
        refine fp_goto (tgt := 35) dd_Mo_undo_59 rfl ?_
        exact fr_ret rfl
    · refine fp_aload_n (i := 0) (r := p0) dd_Mo_undo_62 rfl rfl (fr_pc (pc' := 63) rfl ?_)
      refine fp_aload_n (i := 0) (r := p0) dd_Mo_undo_63 rfl rfl (fr_pc (pc' := 64) rfl ?_)
      refine fr_gR cl_11 38 (by decide) rfl sw_1110 dd_Mo_undo_64 (fun x14 => fr_pc (pc' := 67) rfl ?_)
      refine fp_iload_n (i := 1) (x := y6) dd_Mo_undo_67 rfl rfl (fr_pc (pc' := 68) rfl ?_)
      refine fp_sipush (v := (195 : Int32)) dd_Mo_undo_68 (by decide) (fr_pc (pc' := 71) rfl ?_)
      refine fp_iadd dd_Mo_undo_71 (fr_pc (pc' := 72) rfl ?_)
      refine fr_aI0 dd_Mo_undo_72 (fun x15 => fr_pc (pc' := 73) rfl ?_)
      refine fr_callV (stk := []) (As := [.int x15]) cl_11 (ok_Mo_good p0 x15) mt_Mo_good rfl rfl sw_1244 sw_1246 sp_28 (by decide) (Nat.le_of_ble_eq_true rfl) dd_Mo_undo_73 (fun x16 => fr_to (pc' := 76) (env' := [some (sf_rv p0), some (.int y6), none]) (stk' := [.int x16]) rfl rfl rfl ?_)
      exact fr_iret (v := x16) rfl rfl dd_Mo_undo_76
theorem mt_Mo_goodOr : sf_Mt ({ cls := "SplitFaresModel", name := "goodOr", desc := "(I)I" } : Jvm.MethodName) prog_13_method_107_code 2 (some .int) 1 := ⟨sw_1639, sw_12, ⟨by decide, by decide, by decide +kernel⟩, by decide⟩
theorem dd_Mo_goodOr_0 : decode prog_13_method_107_code 0 = .ok (.iload_n 1, 1) := by decide +kernel
theorem dd_Mo_goodOr_1 : decode prog_13_method_107_code 1 = .ok (.ifCond .ge 11, 3) := by decide +kernel
theorem dd_Mo_goodOr_4 : decode prog_13_method_107_code 4 = .ok (.aload_n 0, 1) := by decide +kernel
theorem dd_Mo_goodOr_5 : decode prog_13_method_107_code 5 = .ok (.iload_n 1, 1) := by decide +kernel
theorem dd_Mo_goodOr_6 : decode prog_13_method_107_code 6 = .ok (.invokevirtual 116, 3) := by decide +kernel
theorem dd_Mo_goodOr_9 : decode prog_13_method_107_code 9 = .ok (.goto 8, 3) := by decide +kernel
theorem dd_Mo_goodOr_12 : decode prog_13_method_107_code 12 = .ok (.aload_n 0, 1) := by decide +kernel
theorem dd_Mo_goodOr_13 : decode prog_13_method_107_code 13 = .ok (.iload_n 1, 1) := by decide +kernel
theorem dd_Mo_goodOr_14 : decode prog_13_method_107_code 14 = .ok (.invokevirtual 14, 3) := by decide +kernel
theorem dd_Mo_goodOr_17 : decode prog_13_method_107_code 17 = .ok (.ireturn, 1) := by decide +kernel
def jx_Mo_goodOr (p0 : Option Nat) (p1 : Int32) : sf_M (Int32) :=
  if 0 ≤ p1 then (
  sf_bnd (sf_rc 11 p0 (jx_Mo_good p0 p1)) fun x2 =>
  sf_ret x2
  ) else (
  sf_bnd (sf_rc 11 p0 (jx_Mo_refuses p0 p1)) fun x3 =>
  sf_ret x3
  )
set_option maxRecDepth 20000 in
set_option maxHeartbeats 4000000 in
theorem ok_Mo_goodOr (p0 : Option Nat) (p1 : Int32) : sf_Ok ({ cls := "SplitFaresModel", name := "goodOr", desc := "(I)I" } : Jvm.MethodName) prog_13_method_107_code 2 (some .int) 1 [sf_rv p0, .int p1] (jx_Mo_goodOr p0 p1) (fun r => some (.int r)) := by
  refine sf_Ok.of (env := [some (sf_rv p0), some (.int p1)]) (plainFor_of_name (by decide)) [false, false] (fun G => ⟨pk_r, pk_i, trivial⟩) (Nat.le_of_ble_eq_true rfl) rfl (fun X => ?_)
  unfold jx_Mo_goodOr
  refine fp_iload_n (i := 1) (x := p1) dd_Mo_goodOr_0 rfl rfl (fr_pc (pc' := 1) rfl ?_)
  refine fr_if_ge (tgt := 12) dd_Mo_goodOr_1 rfl (fun _ => ?_) (fun _ => ?_)
  · refine fp_aload_n (i := 0) (r := p0) dd_Mo_goodOr_12 rfl rfl (fr_pc (pc' := 13) rfl ?_)
    refine fp_iload_n (i := 1) (x := p1) dd_Mo_goodOr_13 rfl rfl (fr_pc (pc' := 14) rfl ?_)
    refine fr_callV (stk := []) (As := [.int p1]) cl_11 (ok_Mo_good p0 p1) mt_Mo_good rfl rfl sw_1244 sw_1246 sp_28 (by decide) (Nat.le_of_ble_eq_true rfl) dd_Mo_goodOr_14 (fun x2 => fr_to (pc' := 17) (env' := [some (sf_rv p0), some (.int p1)]) (stk' := [.int x2]) rfl rfl rfl ?_)
    exact fr_iret (v := x2) rfl rfl dd_Mo_goodOr_17
  · refine fr_pc (pc' := 4) rfl ?_
    refine fp_aload_n (i := 0) (r := p0) dd_Mo_goodOr_4 rfl rfl (fr_pc (pc' := 5) rfl ?_)
    refine fp_iload_n (i := 1) (x := p1) dd_Mo_goodOr_5 rfl rfl (fr_pc (pc' := 6) rfl ?_)
    refine fr_callV (stk := []) (As := [.int p1]) cl_11 (ok_Mo_refuses p0 p1) mt_Mo_refuses rfl rfl sw_1240 sw_1242 sp_27 (by decide) (Nat.le_of_ble_eq_true rfl) dd_Mo_goodOr_6 (fun x3 => fr_to (pc' := 9) (env' := [some (sf_rv p0), some (.int p1)]) (stk' := [.int x3]) rfl rfl rfl ?_)
    refine fp_goto (tgt := 17) dd_Mo_goodOr_9 rfl ?_
    exact fr_iret (v := x3) rfl rfl dd_Mo_goodOr_17
theorem mt_Mo_canBuy : sf_Mt ({ cls := "SplitFaresModel", name := "canBuy", desc := "(III)Z" } : Jvm.MethodName) prog_13_method_108_code 4 (some .boolean) 3 := ⟨sw_1627, sw_12, ⟨by decide, by decide, by decide +kernel⟩, by decide⟩
theorem dd_Mo_canBuy_0 : decode prog_13_method_108_code 0 = .ok (.iload_n 2, 1) := by decide +kernel
theorem dd_Mo_canBuy_1 : decode prog_13_method_108_code 1 = .ok (.iload_n 3, 1) := by decide +kernel
theorem dd_Mo_canBuy_2 : decode prog_13_method_108_code 2 = .ok (.invokestatic 139, 3) := by decide +kernel
theorem dd_Mo_canBuy_5 : decode prog_13_method_108_code 5 = .ok (.ifCond .eq 41, 3) := by decide +kernel
theorem dd_Mo_canBuy_8 : decode prog_13_method_108_code 8 = .ok (.aload_n 0, 1) := by decide +kernel
theorem dd_Mo_canBuy_9 : decode prog_13_method_108_code 9 = .ok (.getfield 32, 3) := by decide +kernel
theorem dd_Mo_canBuy_12 : decode prog_13_method_108_code 12 = .ok (.iload_n 1, 1) := by decide +kernel
theorem dd_Mo_canBuy_13 : decode prog_13_method_108_code 13 = .ok (.iload_n 2, 1) := by decide +kernel
theorem dd_Mo_canBuy_14 : decode prog_13_method_108_code 14 = .ok (.iload_n 3, 1) := by decide +kernel
theorem dd_Mo_canBuy_15 : decode prog_13_method_108_code 15 = .ok (.invokestatic 143, 3) := by decide +kernel
theorem dd_Mo_canBuy_18 : decode prog_13_method_108_code 18 = .ok (.iaload, 1) := by decide +kernel
theorem dd_Mo_canBuy_19 : decode prog_13_method_108_code 19 = .ok (.bipush 9, 2) := by decide +kernel
theorem dd_Mo_canBuy_21 : decode prog_13_method_108_code 21 = .ok (.if_icmp .ge 25, 3) := by decide +kernel
theorem dd_Mo_canBuy_24 : decode prog_13_method_108_code 24 = .ok (.aload_n 0, 1) := by decide +kernel
theorem dd_Mo_canBuy_25 : decode prog_13_method_108_code 25 = .ok (.iload_n 1, 1) := by decide +kernel
theorem dd_Mo_canBuy_26 : decode prog_13_method_108_code 26 = .ok (.iload_n 2, 1) := by decide +kernel
theorem dd_Mo_canBuy_27 : decode prog_13_method_108_code 27 = .ok (.iload_n 3, 1) := by decide +kernel
theorem dd_Mo_canBuy_28 : decode prog_13_method_108_code 28 = .ok (.invokevirtual 339, 3) := by decide +kernel
theorem dd_Mo_canBuy_31 : decode prog_13_method_108_code 31 = .ok (.aload_n 0, 1) := by decide +kernel
theorem dd_Mo_canBuy_32 : decode prog_13_method_108_code 32 = .ok (.getfield 32, 3) := by decide +kernel
theorem dd_Mo_canBuy_35 : decode prog_13_method_108_code 35 = .ok (.sipush 193, 3) := by decide +kernel
theorem dd_Mo_canBuy_38 : decode prog_13_method_108_code 38 = .ok (.iaload, 1) := by decide +kernel
theorem dd_Mo_canBuy_39 : decode prog_13_method_108_code 39 = .ok (.if_icmp .gt 7, 3) := by decide +kernel
theorem dd_Mo_canBuy_42 : decode prog_13_method_108_code 42 = .ok (.iconst 1, 1) := by decide +kernel
theorem dd_Mo_canBuy_43 : decode prog_13_method_108_code 43 = .ok (.goto 4, 3) := by decide +kernel
theorem dd_Mo_canBuy_46 : decode prog_13_method_108_code 46 = .ok (.iconst 0, 1) := by decide +kernel
theorem dd_Mo_canBuy_47 : decode prog_13_method_108_code 47 = .ok (.ireturn, 1) := by decide +kernel
def jx_Mo_canBuy (p0 : Option Nat) (p1 : Int32) (p2 : Int32) (p3 : Int32) : sf_M (Int32) :=
  sf_bnd (jx_Mo_areTwo p2 p3) fun x1 =>
  if x1 = 0 then (
  sf_ret (0 : Int32)
  ) else (
  sf_bnd (sf_gR 11 2 p0) fun x3 =>
  sf_bnd (jx_Mo_ticketAt p1 p2 p3) fun x4 =>
  sf_bnd (sf_aI 0 x3 x4) fun x5 =>
  if (9 : Int32) ≤ x5 then (
  sf_ret (0 : Int32)
  ) else (
  sf_bnd (sf_rc 11 p0 (jx_Mo_costOf p0 p1 p2 p3)) fun x7 =>
  sf_bnd (sf_gR 11 2 p0) fun x8 =>
  sf_bnd (sf_aI 0 x8 (193 : Int32)) fun x9 =>
  if x9 < x7 then (
  sf_ret (0 : Int32)
  ) else (
  sf_ret (1 : Int32)
  )
  )
  )
set_option maxRecDepth 20000 in
set_option maxHeartbeats 4000000 in
theorem ok_Mo_canBuy (p0 : Option Nat) (p1 : Int32) (p2 : Int32) (p3 : Int32) : sf_Ok ({ cls := "SplitFaresModel", name := "canBuy", desc := "(III)Z" } : Jvm.MethodName) prog_13_method_108_code 4 (some .boolean) 207 [sf_rv p0, .int p1, .int p2, .int p3] (jx_Mo_canBuy p0 p1 p2 p3) (fun r => some (.int r)) := by
  refine sf_Ok.of (env := [some (sf_rv p0), some (.int p1), some (.int p2), some (.int p3)]) (plainFor_of_name (by decide)) [false, false, false, false] (fun G => ⟨pk_r, pk_i, pk_i, pk_i, trivial⟩) (Nat.le_of_ble_eq_true rfl) rfl (fun X => ?_)
  unfold jx_Mo_canBuy
  refine fp_iload_n (i := 2) (x := p2) dd_Mo_canBuy_0 rfl rfl (fr_pc (pc' := 1) rfl ?_)
  refine fp_iload_n (i := 3) (x := p3) dd_Mo_canBuy_1 rfl rfl (fr_pc (pc' := 2) rfl ?_)
  refine fr_callS (stk := []) (ok_Mo_areTwo p2 p3) mt_Mo_areTwo rfl rfl sw_1282 sw_1283 (by decide) (Nat.le_of_ble_eq_true rfl) dd_Mo_canBuy_2 (fun x1 => fr_to (pc' := 5) (env' := [some (sf_rv p0), some (.int p1), some (.int p2), some (.int p3)]) (stk' := [.int x1]) rfl rfl rfl ?_)
  refine fr_if_eq (tgt := 46) dd_Mo_canBuy_5 rfl (fun _ => ?_) (fun _ => ?_)
  · refine fp_iconst (v := (0 : Int32)) dd_Mo_canBuy_46 (by decide) (fr_pc (pc' := 47) rfl ?_)
    exact fr_zret0 (v := (0 : Int32)) (Or.inl rfl) rfl rfl dd_Mo_canBuy_47
  · refine fr_pc (pc' := 8) rfl ?_
    refine fp_aload_n (i := 0) (r := p0) dd_Mo_canBuy_8 rfl rfl (fr_pc (pc' := 9) rfl ?_)
    refine fr_gR cl_11 2 (by decide) rfl sw_1074 dd_Mo_canBuy_9 (fun x3 => fr_pc (pc' := 12) rfl ?_)
    refine fp_iload_n (i := 1) (x := p1) dd_Mo_canBuy_12 rfl rfl (fr_pc (pc' := 13) rfl ?_)
    refine fp_iload_n (i := 2) (x := p2) dd_Mo_canBuy_13 rfl rfl (fr_pc (pc' := 14) rfl ?_)
    refine fp_iload_n (i := 3) (x := p3) dd_Mo_canBuy_14 rfl rfl (fr_pc (pc' := 15) rfl ?_)
    refine fr_callS (stk := [sf_rv x3]) (ok_Mo_ticketAt p1 p2 p3) mt_Mo_ticketAt rfl rfl sw_1288 sw_1289 (by decide) (Nat.le_of_ble_eq_true rfl) dd_Mo_canBuy_15 (fun x4 => fr_to (pc' := 18) (env' := [some (sf_rv p0), some (.int p1), some (.int p2), some (.int p3)]) (stk' := [.int x4, sf_rv x3]) rfl rfl rfl ?_)
    refine fr_aI0 dd_Mo_canBuy_18 (fun x5 => fr_pc (pc' := 19) rfl ?_)
    refine fp_bipush (v := (9 : Int32)) dd_Mo_canBuy_19 (by decide) (fr_pc (pc' := 21) rfl ?_)
    refine fr_icmp_ge (tgt := 46) dd_Mo_canBuy_21 rfl (fun _ => ?_) (fun _ => ?_)
    · refine fp_iconst (v := (0 : Int32)) dd_Mo_canBuy_46 (by decide) (fr_pc (pc' := 47) rfl ?_)
      exact fr_zret0 (v := (0 : Int32)) (Or.inl rfl) rfl rfl dd_Mo_canBuy_47
    · refine fr_pc (pc' := 24) rfl ?_
      refine fp_aload_n (i := 0) (r := p0) dd_Mo_canBuy_24 rfl rfl (fr_pc (pc' := 25) rfl ?_)
      refine fp_iload_n (i := 1) (x := p1) dd_Mo_canBuy_25 rfl rfl (fr_pc (pc' := 26) rfl ?_)
      refine fp_iload_n (i := 2) (x := p2) dd_Mo_canBuy_26 rfl rfl (fr_pc (pc' := 27) rfl ?_)
      refine fp_iload_n (i := 3) (x := p3) dd_Mo_canBuy_27 rfl rfl (fr_pc (pc' := 28) rfl ?_)
      refine fr_callV (stk := []) (As := [.int p1, .int p2, .int p3]) cl_11 (ok_Mo_costOf p0 p1 p2 p3) mt_Mo_costOf rfl rfl sw_1430 sw_1432 sp_53 (by decide) (Nat.le_of_ble_eq_true rfl) dd_Mo_canBuy_28 (fun x7 => fr_to (pc' := 31) (env' := [some (sf_rv p0), some (.int p1), some (.int p2), some (.int p3)]) (stk' := [.int x7]) rfl rfl rfl ?_)
      refine fp_aload_n (i := 0) (r := p0) dd_Mo_canBuy_31 rfl rfl (fr_pc (pc' := 32) rfl ?_)
      refine fr_gR cl_11 2 (by decide) rfl sw_1074 dd_Mo_canBuy_32 (fun x8 => fr_pc (pc' := 35) rfl ?_)
      refine fp_sipush (v := (193 : Int32)) dd_Mo_canBuy_35 (by decide) (fr_pc (pc' := 38) rfl ?_)
      refine fr_aI0 dd_Mo_canBuy_38 (fun x9 => fr_pc (pc' := 39) rfl ?_)
      refine fr_icmp_gt (tgt := 46) dd_Mo_canBuy_39 rfl (fun _ => ?_) (fun _ => ?_)
      · refine fp_iconst (v := (0 : Int32)) dd_Mo_canBuy_46 (by decide) (fr_pc (pc' := 47) rfl ?_)
        exact fr_zret0 (v := (0 : Int32)) (Or.inl rfl) rfl rfl dd_Mo_canBuy_47
      · refine fr_pc (pc' := 42) rfl ?_
        refine fp_iconst (v := (1 : Int32)) dd_Mo_canBuy_42 (by decide) (fr_pc (pc' := 43) rfl ?_)
        refine fp_goto (tgt := 47) dd_Mo_canBuy_43 rfl ?_
        exact fr_zret0 (v := (1 : Int32)) (Or.inr rfl) rfl rfl dd_Mo_canBuy_47
theorem mt_Mo_buys : sf_Mt ({ cls := "SplitFaresModel", name := "buys", desc := "(III)V" } : Jvm.MethodName) prog_13_method_109_code 4 none 3 := ⟨sw_1635, sw_12, ⟨by decide, by decide, by decide +kernel⟩, by decide⟩
theorem dd_Mo_buys_0 : decode prog_13_method_109_code 0 = .ok (.aload_n 0, 1) := by decide +kernel
theorem dd_Mo_buys_1 : decode prog_13_method_109_code 1 = .ok (.getfield 32, 3) := by decide +kernel
theorem dd_Mo_buys_4 : decode prog_13_method_109_code 4 = .ok (.sipush 193, 3) := by decide +kernel
theorem dd_Mo_buys_7 : decode prog_13_method_109_code 7 = .ok (.dup2, 1) := by decide +kernel
theorem dd_Mo_buys_8 : decode prog_13_method_109_code 8 = .ok (.iaload, 1) := by decide +kernel
theorem dd_Mo_buys_9 : decode prog_13_method_109_code 9 = .ok (.aload_n 0, 1) := by decide +kernel
theorem dd_Mo_buys_10 : decode prog_13_method_109_code 10 = .ok (.iload_n 1, 1) := by decide +kernel
theorem dd_Mo_buys_11 : decode prog_13_method_109_code 11 = .ok (.iload_n 2, 1) := by decide +kernel
theorem dd_Mo_buys_12 : decode prog_13_method_109_code 12 = .ok (.iload_n 3, 1) := by decide +kernel
theorem dd_Mo_buys_13 : decode prog_13_method_109_code 13 = .ok (.invokevirtual 339, 3) := by decide +kernel
theorem dd_Mo_buys_16 : decode prog_13_method_109_code 16 = .ok (.isub, 1) := by decide +kernel
theorem dd_Mo_buys_17 : decode prog_13_method_109_code 17 = .ok (.iastore, 1) := by decide +kernel
theorem dd_Mo_buys_18 : decode prog_13_method_109_code 18 = .ok (.aload_n 0, 1) := by decide +kernel
theorem dd_Mo_buys_19 : decode prog_13_method_109_code 19 = .ok (.getfield 32, 3) := by decide +kernel
theorem dd_Mo_buys_22 : decode prog_13_method_109_code 22 = .ok (.iload_n 1, 1) := by decide +kernel
theorem dd_Mo_buys_23 : decode prog_13_method_109_code 23 = .ok (.iload_n 2, 1) := by decide +kernel
theorem dd_Mo_buys_24 : decode prog_13_method_109_code 24 = .ok (.iload_n 3, 1) := by decide +kernel
theorem dd_Mo_buys_25 : decode prog_13_method_109_code 25 = .ok (.invokestatic 143, 3) := by decide +kernel
theorem dd_Mo_buys_28 : decode prog_13_method_109_code 28 = .ok (.dup2, 1) := by decide +kernel
theorem dd_Mo_buys_29 : decode prog_13_method_109_code 29 = .ok (.iaload, 1) := by decide +kernel
theorem dd_Mo_buys_30 : decode prog_13_method_109_code 30 = .ok (.iconst 1, 1) := by decide +kernel
theorem dd_Mo_buys_31 : decode prog_13_method_109_code 31 = .ok (.iadd, 1) := by decide +kernel
theorem dd_Mo_buys_32 : decode prog_13_method_109_code 32 = .ok (.iastore, 1) := by decide +kernel
theorem dd_Mo_buys_33 : decode prog_13_method_109_code 33 = .ok (.return_, 1) := by decide +kernel
def jx_Mo_buys (p0 : Option Nat) (p1 : Int32) (p2 : Int32) (p3 : Int32) : sf_M (Unit) :=
  sf_bnd (sf_gR 11 2 p0) fun x1 =>
  sf_bnd (sf_aI 0 x1 (193 : Int32)) fun x2 =>
  sf_bnd (sf_rc 11 p0 (jx_Mo_costOf p0 p1 p2 p3)) fun x3 =>
  sf_bnd (sf_sI 0 x1 (193 : Int32) (x2 - x3)) fun _ =>
  sf_bnd (sf_gR 11 2 p0) fun x4 =>
  sf_bnd (jx_Mo_ticketAt p1 p2 p3) fun x5 =>
  sf_bnd (sf_aI 0 x4 x5) fun x6 =>
  sf_bnd (sf_sI 0 x4 x5 (x6 + (1 : Int32))) fun _ =>
  sf_ret ()
set_option maxRecDepth 20000 in
set_option maxHeartbeats 4000000 in
theorem ok_Mo_buys (p0 : Option Nat) (p1 : Int32) (p2 : Int32) (p3 : Int32) : sf_Ok ({ cls := "SplitFaresModel", name := "buys", desc := "(III)V" } : Jvm.MethodName) prog_13_method_109_code 4 none 207 [sf_rv p0, .int p1, .int p2, .int p3] (jx_Mo_buys p0 p1 p2 p3) (fun _ => none) := by
  refine sf_Ok.of (env := [some (sf_rv p0), some (.int p1), some (.int p2), some (.int p3)]) (plainFor_of_name (by decide)) [false, false, false, false] (fun G => ⟨pk_r, pk_i, pk_i, pk_i, trivial⟩) (Nat.le_of_ble_eq_true rfl) rfl (fun X => ?_)
  unfold jx_Mo_buys
  refine fp_aload_n (i := 0) (r := p0) dd_Mo_buys_0 rfl rfl (fr_pc (pc' := 1) rfl ?_)
  refine fr_gR cl_11 2 (by decide) rfl sw_1074 dd_Mo_buys_1 (fun x1 => fr_pc (pc' := 4) rfl ?_)
  refine fp_sipush (v := (193 : Int32)) dd_Mo_buys_4 (by decide) (fr_pc (pc' := 7) rfl ?_)
  refine fp_dup2 dd_Mo_buys_7 (fr_pc (pc' := 8) rfl ?_)
  refine fr_aI0 dd_Mo_buys_8 (fun x2 => fr_pc (pc' := 9) rfl ?_)
  refine fp_aload_n (i := 0) (r := p0) dd_Mo_buys_9 rfl rfl (fr_pc (pc' := 10) rfl ?_)
  refine fp_iload_n (i := 1) (x := p1) dd_Mo_buys_10 rfl rfl (fr_pc (pc' := 11) rfl ?_)
  refine fp_iload_n (i := 2) (x := p2) dd_Mo_buys_11 rfl rfl (fr_pc (pc' := 12) rfl ?_)
  refine fp_iload_n (i := 3) (x := p3) dd_Mo_buys_12 rfl rfl (fr_pc (pc' := 13) rfl ?_)
  refine fr_callV (stk := [.int x2, .int (193 : Int32), sf_rv x1]) (As := [.int p1, .int p2, .int p3]) cl_11 (ok_Mo_costOf p0 p1 p2 p3) mt_Mo_costOf rfl rfl sw_1430 sw_1432 sp_53 (by decide) (Nat.le_of_ble_eq_true rfl) dd_Mo_buys_13 (fun x3 => fr_to (pc' := 16) (env' := [some (sf_rv p0), some (.int p1), some (.int p2), some (.int p3)]) (stk' := [.int x3, .int x2, .int (193 : Int32), sf_rv x1]) rfl rfl rfl ?_)
  refine fp_isub dd_Mo_buys_16 (fr_pc (pc' := 17) rfl ?_)
  refine fr_sI0 dd_Mo_buys_17 (fr_pc (pc' := 18) rfl ?_)
  refine fp_aload_n (i := 0) (r := p0) dd_Mo_buys_18 rfl rfl (fr_pc (pc' := 19) rfl ?_)
  refine fr_gR cl_11 2 (by decide) rfl sw_1074 dd_Mo_buys_19 (fun x4 => fr_pc (pc' := 22) rfl ?_)
  refine fp_iload_n (i := 1) (x := p1) dd_Mo_buys_22 rfl rfl (fr_pc (pc' := 23) rfl ?_)
  refine fp_iload_n (i := 2) (x := p2) dd_Mo_buys_23 rfl rfl (fr_pc (pc' := 24) rfl ?_)
  refine fp_iload_n (i := 3) (x := p3) dd_Mo_buys_24 rfl rfl (fr_pc (pc' := 25) rfl ?_)
  refine fr_callS (stk := [sf_rv x4]) (ok_Mo_ticketAt p1 p2 p3) mt_Mo_ticketAt rfl rfl sw_1288 sw_1289 (by decide) (Nat.le_of_ble_eq_true rfl) dd_Mo_buys_25 (fun x5 => fr_to (pc' := 28) (env' := [some (sf_rv p0), some (.int p1), some (.int p2), some (.int p3)]) (stk' := [.int x5, sf_rv x4]) rfl rfl rfl ?_)
  refine fp_dup2 dd_Mo_buys_28 (fr_pc (pc' := 29) rfl ?_)
  refine fr_aI0 dd_Mo_buys_29 (fun x6 => fr_pc (pc' := 30) rfl ?_)
  refine fp_iconst (v := (1 : Int32)) dd_Mo_buys_30 (by decide) (fr_pc (pc' := 31) rfl ?_)
  refine fp_iadd dd_Mo_buys_31 (fr_pc (pc' := 32) rfl ?_)
  refine fr_sI0 dd_Mo_buys_32 (fr_pc (pc' := 33) rfl ?_)
  exact fr_vret rfl rfl dd_Mo_buys_33
theorem mt_Mo_canRide : sf_Mt ({ cls := "SplitFaresModel", name := "canRide", desc := "(II)Z" } : Jvm.MethodName) prog_13_method_110_code 3 (some .boolean) 2 := ⟨sw_1651, sw_12, ⟨by decide, by decide, by decide +kernel⟩, by decide⟩
theorem dd_Mo_canRide_0 : decode prog_13_method_110_code 0 = .ok (.aload_n 0, 1) := by decide +kernel
theorem dd_Mo_canRide_1 : decode prog_13_method_110_code 1 = .ok (.iload_n 1, 1) := by decide +kernel
theorem dd_Mo_canRide_2 : decode prog_13_method_110_code 2 = .ok (.aload_n 0, 1) := by decide +kernel
theorem dd_Mo_canRide_3 : decode prog_13_method_110_code 3 = .ok (.getfield 32, 3) := by decide +kernel
theorem dd_Mo_canRide_6 : decode prog_13_method_110_code 6 = .ok (.sipush 192, 3) := by decide +kernel
theorem dd_Mo_canRide_9 : decode prog_13_method_110_code 9 = .ok (.iaload, 1) := by decide +kernel
theorem dd_Mo_canRide_10 : decode prog_13_method_110_code 10 = .ok (.iload_n 2, 1) := by decide +kernel
theorem dd_Mo_canRide_11 : decode prog_13_method_110_code 11 = .ok (.invokevirtual 361, 3) := by decide +kernel
theorem dd_Mo_canRide_14 : decode prog_13_method_110_code 14 = .ok (.ifCond .ne 5, 3) := by decide +kernel
theorem dd_Mo_canRide_17 : decode prog_13_method_110_code 17 = .ok (.iconst 0, 1) := by decide +kernel
theorem dd_Mo_canRide_18 : decode prog_13_method_110_code 18 = .ok (.ireturn, 1) := by decide +kernel
theorem dd_Mo_canRide_19 : decode prog_13_method_110_code 19 = .ok (.aload_n 0, 1) := by decide +kernel
theorem dd_Mo_canRide_20 : decode prog_13_method_110_code 20 = .ok (.iload_n 1, 1) := by decide +kernel
theorem dd_Mo_canRide_21 : decode prog_13_method_110_code 21 = .ok (.aload_n 0, 1) := by decide +kernel
theorem dd_Mo_canRide_22 : decode prog_13_method_110_code 22 = .ok (.getfield 32, 3) := by decide +kernel
theorem dd_Mo_canRide_25 : decode prog_13_method_110_code 25 = .ok (.sipush 192, 3) := by decide +kernel
theorem dd_Mo_canRide_28 : decode prog_13_method_110_code 28 = .ok (.iaload, 1) := by decide +kernel
theorem dd_Mo_canRide_29 : decode prog_13_method_110_code 29 = .ok (.iload_n 2, 1) := by decide +kernel
theorem dd_Mo_canRide_30 : decode prog_13_method_110_code 30 = .ok (.invokevirtual 364, 3) := by decide +kernel
theorem dd_Mo_canRide_33 : decode prog_13_method_110_code 33 = .ok (.aload_n 0, 1) := by decide +kernel
theorem dd_Mo_canRide_34 : decode prog_13_method_110_code 34 = .ok (.iload_n 1, 1) := by decide +kernel
theorem dd_Mo_canRide_35 : decode prog_13_method_110_code 35 = .ok (.invokevirtual 407, 3) := by decide +kernel
theorem dd_Mo_canRide_38 : decode prog_13_method_110_code 38 = .ok (.aload_n 0, 1) := by decide +kernel
theorem dd_Mo_canRide_39 : decode prog_13_method_110_code 39 = .ok (.invokevirtual 370, 3) := by decide +kernel
theorem dd_Mo_canRide_42 : decode prog_13_method_110_code 42 = .ok (.aload_n 0, 1) := by decide +kernel
theorem dd_Mo_canRide_43 : decode prog_13_method_110_code 43 = .ok (.getfield 76, 3) := by decide +kernel
theorem dd_Mo_canRide_46 : decode prog_13_method_110_code 46 = .ok (.iconst 0, 1) := by decide +kernel
theorem dd_Mo_canRide_47 : decode prog_13_method_110_code 47 = .ok (.iaload, 1) := by decide +kernel
theorem dd_Mo_canRide_48 : decode prog_13_method_110_code 48 = .ok (.ldc_w 348, 3) := by decide +kernel
theorem dd_Mo_canRide_51 : decode prog_13_method_110_code 51 = .ok (.if_icmp .ge 7, 3) := by decide +kernel
theorem dd_Mo_canRide_54 : decode prog_13_method_110_code 54 = .ok (.iconst 1, 1) := by decide +kernel
theorem dd_Mo_canRide_55 : decode prog_13_method_110_code 55 = .ok (.goto 4, 3) := by decide +kernel
theorem dd_Mo_canRide_58 : decode prog_13_method_110_code 58 = .ok (.iconst 0, 1) := by decide +kernel
theorem dd_Mo_canRide_59 : decode prog_13_method_110_code 59 = .ok (.ireturn, 1) := by decide +kernel
def jx_Mo_canRide (p0 : Option Nat) (p1 : Int32) (p2 : Int32) : sf_M (Int32) :=
  sf_bnd (sf_gR 11 2 p0) fun x1 =>
  sf_bnd (sf_aI 0 x1 (192 : Int32)) fun x2 =>
  sf_bnd (sf_rc 11 p0 (jx_Mo_goes p0 p1 x2 p2)) fun x3 =>
  if x3 = 0 then (
  sf_ret (0 : Int32)
  ) else (
  sf_bnd (sf_gR 11 2 p0) fun x5 =>
  sf_bnd (sf_aI 0 x5 (192 : Int32)) fun x6 =>
  sf_bnd (sf_rc 11 p0 (jx_Mo_laysLine p0 p1 x6 p2)) fun _ =>
  sf_bnd (sf_rc 11 p0 (jx_Mo_laysHeld p0 p1)) fun _ =>
  sf_bnd (sf_rc 11 p0 (jx_Mo_laysLeft p0)) fun _ =>
  sf_bnd (sf_gR 11 32 p0) fun x10 =>
  sf_bnd (sf_aI 0 x10 (0 : Int32)) fun x11 =>
  if (100000000 : Int32) ≤ x11 then (
  sf_ret (0 : Int32)
  ) else (
  sf_ret (1 : Int32)
  )
  )
set_option maxRecDepth 20000 in
set_option maxHeartbeats 4000000 in
theorem ok_Mo_canRide (p0 : Option Nat) (p1 : Int32) (p2 : Int32) : sf_Ok ({ cls := "SplitFaresModel", name := "canRide", desc := "(II)Z" } : Jvm.MethodName) prog_13_method_110_code 3 (some .boolean) 210 [sf_rv p0, .int p1, .int p2] (jx_Mo_canRide p0 p1 p2) (fun r => some (.int r)) := by
  refine sf_Ok.of (env := [some (sf_rv p0), some (.int p1), some (.int p2)]) (plainFor_of_name (by decide)) [false, false, false] (fun G => ⟨pk_r, pk_i, pk_i, trivial⟩) (Nat.le_of_ble_eq_true rfl) rfl (fun X => ?_)
  unfold jx_Mo_canRide
  refine fp_aload_n (i := 0) (r := p0) dd_Mo_canRide_0 rfl rfl (fr_pc (pc' := 1) rfl ?_)
  refine fp_iload_n (i := 1) (x := p1) dd_Mo_canRide_1 rfl rfl (fr_pc (pc' := 2) rfl ?_)
  refine fp_aload_n (i := 0) (r := p0) dd_Mo_canRide_2 rfl rfl (fr_pc (pc' := 3) rfl ?_)
  refine fr_gR cl_11 2 (by decide) rfl sw_1074 dd_Mo_canRide_3 (fun x1 => fr_pc (pc' := 6) rfl ?_)
  refine fp_sipush (v := (192 : Int32)) dd_Mo_canRide_6 (by decide) (fr_pc (pc' := 9) rfl ?_)
  refine fr_aI0 dd_Mo_canRide_9 (fun x2 => fr_pc (pc' := 10) rfl ?_)
  refine fp_iload_n (i := 2) (x := p2) dd_Mo_canRide_10 rfl rfl (fr_pc (pc' := 11) rfl ?_)
  refine fr_callV (stk := []) (As := [.int p1, .int x2, .int p2]) cl_11 (ok_Mo_goes p0 p1 x2 p2) mt_Mo_goes rfl rfl sw_1516 sw_1518 sp_71 (by decide) (Nat.le_of_ble_eq_true rfl) dd_Mo_canRide_11 (fun x3 => fr_to (pc' := 14) (env' := [some (sf_rv p0), some (.int p1), some (.int p2)]) (stk' := [.int x3]) rfl rfl rfl ?_)
  refine fr_if_ne (tgt := 19) dd_Mo_canRide_14 rfl (fun _ => ?_) (fun _ => ?_)
  · refine fr_pc (pc' := 17) rfl ?_
    refine fp_iconst (v := (0 : Int32)) dd_Mo_canRide_17 (by decide) (fr_pc (pc' := 18) rfl ?_)
    exact fr_zret0 (v := (0 : Int32)) (Or.inl rfl) rfl rfl dd_Mo_canRide_18
  · refine fp_aload_n (i := 0) (r := p0) dd_Mo_canRide_19 rfl rfl (fr_pc (pc' := 20) rfl ?_)
    refine fp_iload_n (i := 1) (x := p1) dd_Mo_canRide_20 rfl rfl (fr_pc (pc' := 21) rfl ?_)
    refine fp_aload_n (i := 0) (r := p0) dd_Mo_canRide_21 rfl rfl (fr_pc (pc' := 22) rfl ?_)
    refine fr_gR cl_11 2 (by decide) rfl sw_1074 dd_Mo_canRide_22 (fun x5 => fr_pc (pc' := 25) rfl ?_)
    refine fp_sipush (v := (192 : Int32)) dd_Mo_canRide_25 (by decide) (fr_pc (pc' := 28) rfl ?_)
    refine fr_aI0 dd_Mo_canRide_28 (fun x6 => fr_pc (pc' := 29) rfl ?_)
    refine fp_iload_n (i := 2) (x := p2) dd_Mo_canRide_29 rfl rfl (fr_pc (pc' := 30) rfl ?_)
    refine fr_callV (stk := []) (As := [.int p1, .int x6, .int p2]) cl_11 (ok_Mo_laysLine p0 p1 x6 p2) mt_Mo_laysLine rfl rfl sw_1527 sw_1529 sp_73 (by decide) (Nat.le_of_ble_eq_true rfl) dd_Mo_canRide_30 (fun u7 => fr_to (pc' := 33) (env' := [some (sf_rv p0), some (.int p1), some (.int p2)]) (stk' := []) rfl rfl rfl ?_)
    refine fp_aload_n (i := 0) (r := p0) dd_Mo_canRide_33 rfl rfl (fr_pc (pc' := 34) rfl ?_)
    refine fp_iload_n (i := 1) (x := p1) dd_Mo_canRide_34 rfl rfl (fr_pc (pc' := 35) rfl ?_)
    refine fr_callV (stk := []) (As := [.int p1]) cl_11 (ok_Mo_laysHeld p0 p1) mt_Mo_laysHeld rfl rfl sw_1652 sw_1654 sp_90 (by decide) (Nat.le_of_ble_eq_true rfl) dd_Mo_canRide_35 (fun u8 => fr_to (pc' := 38) (env' := [some (sf_rv p0), some (.int p1), some (.int p2)]) (stk' := []) rfl rfl rfl ?_)
    refine fp_aload_n (i := 0) (r := p0) dd_Mo_canRide_38 rfl rfl (fr_pc (pc' := 39) rfl ?_)
    refine fr_callV (stk := []) (As := []) cl_11 (ok_Mo_laysLeft p0) mt_Mo_laysLeft rfl rfl sw_1536 sw_1538 sp_75 (by decide) (Nat.le_of_ble_eq_true rfl) dd_Mo_canRide_39 (fun u9 => fr_to (pc' := 42) (env' := [some (sf_rv p0), some (.int p1), some (.int p2)]) (stk' := []) rfl rfl rfl ?_)
    refine fp_aload_n (i := 0) (r := p0) dd_Mo_canRide_42 rfl rfl (fr_pc (pc' := 43) rfl ?_)
    refine fr_gR cl_11 32 (by decide) rfl sw_1104 dd_Mo_canRide_43 (fun x10 => fr_pc (pc' := 46) rfl ?_)
    refine fp_iconst (v := (0 : Int32)) dd_Mo_canRide_46 (by decide) (fr_pc (pc' := 47) rfl ?_)
    refine fr_aI0 dd_Mo_canRide_47 (fun x11 => fr_pc (pc' := 48) rfl ?_)
    refine fp_ldcw (v := (100000000 : Int32)) dd_Mo_canRide_48 sw_1535 (fr_pc (pc' := 51) rfl ?_)
    refine fr_icmp_ge (tgt := 58) dd_Mo_canRide_51 rfl (fun _ => ?_) (fun _ => ?_)
    · refine fp_iconst (v := (0 : Int32)) dd_Mo_canRide_58 (by decide) (fr_pc (pc' := 59) rfl ?_)
      exact fr_zret0 (v := (0 : Int32)) (Or.inl rfl) rfl rfl dd_Mo_canRide_59
    · refine fr_pc (pc' := 54) rfl ?_
      refine fp_iconst (v := (1 : Int32)) dd_Mo_canRide_54 (by decide) (fr_pc (pc' := 55) rfl ?_)
      refine fp_goto (tgt := 59) dd_Mo_canRide_55 rfl ?_
      exact fr_zret0 (v := (1 : Int32)) (Or.inr rfl) rfl rfl dd_Mo_canRide_59
theorem mt_Mo_uses : sf_Mt ({ cls := "SplitFaresModel", name := "uses", desc := "(III)V" } : Jvm.MethodName) prog_13_method_112_code 6 none 3 := ⟨sw_1671, sw_12, ⟨by decide, by decide, by decide +kernel⟩, by decide⟩
theorem dd_Mo_uses_0 : decode prog_13_method_112_code 0 = .ok (.aload_n 0, 1) := by decide +kernel
theorem dd_Mo_uses_1 : decode prog_13_method_112_code 1 = .ok (.iload_n 1, 1) := by decide +kernel
theorem dd_Mo_uses_2 : decode prog_13_method_112_code 2 = .ok (.iload_n 2, 1) := by decide +kernel
theorem dd_Mo_uses_3 : decode prog_13_method_112_code 3 = .ok (.iload_n 3, 1) := by decide +kernel
theorem dd_Mo_uses_4 : decode prog_13_method_112_code 4 = .ok (.invokevirtual 349, 3) := by decide +kernel
theorem dd_Mo_uses_7 : decode prog_13_method_112_code 7 = .ok (.istore 4, 2) := by decide +kernel
theorem dd_Mo_uses_9 : decode prog_13_method_112_code 9 = .ok (.aload_n 0, 1) := by decide +kernel
theorem dd_Mo_uses_10 : decode prog_13_method_112_code 10 = .ok (.getfield 32, 3) := by decide +kernel
theorem dd_Mo_uses_13 : decode prog_13_method_112_code 13 = .ok (.iload 4, 2) := by decide +kernel
theorem dd_Mo_uses_15 : decode prog_13_method_112_code 15 = .ok (.iload_n 2, 1) := by decide +kernel
theorem dd_Mo_uses_16 : decode prog_13_method_112_code 16 = .ok (.iload_n 3, 1) := by decide +kernel
theorem dd_Mo_uses_17 : decode prog_13_method_112_code 17 = .ok (.invokestatic 143, 3) := by decide +kernel
theorem dd_Mo_uses_20 : decode prog_13_method_112_code 20 = .ok (.dup2, 1) := by decide +kernel
theorem dd_Mo_uses_21 : decode prog_13_method_112_code 21 = .ok (.iaload, 1) := by decide +kernel
theorem dd_Mo_uses_22 : decode prog_13_method_112_code 22 = .ok (.iconst 1, 1) := by decide +kernel
theorem dd_Mo_uses_23 : decode prog_13_method_112_code 23 = .ok (.isub, 1) := by decide +kernel
theorem dd_Mo_uses_24 : decode prog_13_method_112_code 24 = .ok (.iastore, 1) := by decide +kernel
theorem dd_Mo_uses_25 : decode prog_13_method_112_code 25 = .ok (.iload 4, 2) := by decide +kernel
theorem dd_Mo_uses_27 : decode prog_13_method_112_code 27 = .ok (.iconst 1, 1) := by decide +kernel
theorem dd_Mo_uses_28 : decode prog_13_method_112_code 28 = .ok (.if_icmp .eq 4, 3) := by decide +kernel
theorem dd_Mo_uses_31 : decode prog_13_method_112_code 31 = .ok (.return_, 1) := by decide +kernel
theorem dd_Mo_uses_32 : decode prog_13_method_112_code 32 = .ok (.iconst 2, 1) := by decide +kernel
theorem dd_Mo_uses_33 : decode prog_13_method_112_code 33 = .ok (.iload_n 3, 1) := by decide +kernel
theorem dd_Mo_uses_34 : decode prog_13_method_112_code 34 = .ok (.iload_n 2, 1) := by decide +kernel
theorem dd_Mo_uses_35 : decode prog_13_method_112_code 35 = .ok (.invokestatic 143, 3) := by decide +kernel
theorem dd_Mo_uses_38 : decode prog_13_method_112_code 38 = .ok (.istore 5, 2) := by decide +kernel
theorem dd_Mo_uses_40 : decode prog_13_method_112_code 40 = .ok (.aload_n 0, 1) := by decide +kernel
theorem dd_Mo_uses_41 : decode prog_13_method_112_code 41 = .ok (.getfield 32, 3) := by decide +kernel
theorem dd_Mo_uses_44 : decode prog_13_method_112_code 44 = .ok (.iload 5, 2) := by decide +kernel
theorem dd_Mo_uses_46 : decode prog_13_method_112_code 46 = .ok (.bipush 9, 2) := by decide +kernel
theorem dd_Mo_uses_48 : decode prog_13_method_112_code 48 = .ok (.aload_n 0, 1) := by decide +kernel
theorem dd_Mo_uses_49 : decode prog_13_method_112_code 49 = .ok (.getfield 32, 3) := by decide +kernel
theorem dd_Mo_uses_52 : decode prog_13_method_112_code 52 = .ok (.iload 5, 2) := by decide +kernel
theorem dd_Mo_uses_54 : decode prog_13_method_112_code 54 = .ok (.iaload, 1) := by decide +kernel
theorem dd_Mo_uses_55 : decode prog_13_method_112_code 55 = .ok (.iconst 1, 1) := by decide +kernel
theorem dd_Mo_uses_56 : decode prog_13_method_112_code 56 = .ok (.iadd, 1) := by decide +kernel
theorem dd_Mo_uses_57 : decode prog_13_method_112_code 57 = .ok (.invokestatic 355, 3) := by decide +kernel
theorem dd_Mo_uses_60 : decode prog_13_method_112_code 60 = .ok (.iastore, 1) := by decide +kernel
theorem dd_Mo_uses_61 : decode prog_13_method_112_code 61 = .ok (.return_, 1) := by decide +kernel
def jx_Mo_uses (p0 : Option Nat) (p1 : Int32) (p2 : Int32) (p3 : Int32) : sf_M (Unit) :=
  sf_bnd (sf_rc 11 p0 (jx_Mo_sortFor p0 p1 p2 p3)) fun x1 =>
  sf_bnd (sf_gR 11 2 p0) fun x2 =>
  sf_bnd (jx_Mo_ticketAt x1 p2 p3) fun x3 =>
  sf_bnd (sf_aI 0 x2 x3) fun x4 =>
  sf_bnd (sf_sI 0 x2 x3 (x4 - (1 : Int32))) fun _ =>
  if x1 = (1 : Int32) then (
  sf_bnd (jx_Mo_ticketAt (2 : Int32) p3 p2) fun x6 =>
  sf_bnd (sf_gR 11 2 p0) fun x7 =>
  sf_bnd (sf_gR 11 2 p0) fun x8 =>
  sf_bnd (sf_aI 0 x8 x6) fun x9 =>
  sf_bnd (jx_Mo_lesser (9 : Int32) (x9 + (1 : Int32))) fun x10 =>
  sf_bnd (sf_sI 0 x7 x6 x10) fun _ =>
  sf_ret ()
  ) else (
  sf_ret ()
  )
set_option maxRecDepth 20000 in
set_option maxHeartbeats 4000000 in
theorem ok_Mo_uses (p0 : Option Nat) (p1 : Int32) (p2 : Int32) (p3 : Int32) : sf_Ok ({ cls := "SplitFaresModel", name := "uses", desc := "(III)V" } : Jvm.MethodName) prog_13_method_112_code 6 none 209 [sf_rv p0, .int p1, .int p2, .int p3] (jx_Mo_uses p0 p1 p2 p3) (fun _ => none) := by
  refine sf_Ok.of (env := [some (sf_rv p0), some (.int p1), some (.int p2), some (.int p3), none, none]) (plainFor_of_name (by decide)) [false, false, false, false] (fun G => ⟨pk_r, pk_i, pk_i, pk_i, trivial⟩) (Nat.le_of_ble_eq_true rfl) rfl (fun X => ?_)
  unfold jx_Mo_uses
  refine fp_aload_n (i := 0) (r := p0) dd_Mo_uses_0 rfl rfl (fr_pc (pc' := 1) rfl ?_)
  refine fp_iload_n (i := 1) (x := p1) dd_Mo_uses_1 rfl rfl (fr_pc (pc' := 2) rfl ?_)
  refine fp_iload_n (i := 2) (x := p2) dd_Mo_uses_2 rfl rfl (fr_pc (pc' := 3) rfl ?_)
  refine fp_iload_n (i := 3) (x := p3) dd_Mo_uses_3 rfl rfl (fr_pc (pc' := 4) rfl ?_)
  refine fr_callV (stk := []) (As := [.int p1, .int p2, .int p3]) cl_11 (ok_Mo_sortFor p0 p1 p2 p3) mt_Mo_sortFor rfl rfl sw_1656 sw_1658 sp_91 (by decide) (Nat.le_of_ble_eq_true rfl) dd_Mo_uses_4 (fun x1 => fr_to (pc' := 7) (env' := [some (sf_rv p0), some (.int p1), some (.int p2), some (.int p3), none, none]) (stk' := [.int x1]) rfl rfl rfl ?_)
  refine fp_istore (i := 4) dd_Mo_uses_7 (Nat.le_of_ble_eq_true rfl) (fun _ => c1_i rfl) (fr_to (pc' := 9) (env' := [some (sf_rv p0), some (.int p1), some (.int p2), some (.int p3), some (.int x1), none]) (stk' := []) rfl rfl rfl ?_)
  refine fp_aload_n (i := 0) (r := p0) dd_Mo_uses_9 rfl rfl (fr_pc (pc' := 10) rfl ?_)
  refine fr_gR cl_11 2 (by decide) rfl sw_1074 dd_Mo_uses_10 (fun x2 => fr_pc (pc' := 13) rfl ?_)
  refine fp_iload (i := 4) (x := x1) dd_Mo_uses_13 rfl (fr_pc (pc' := 15) rfl ?_)
  refine fp_iload_n (i := 2) (x := p2) dd_Mo_uses_15 rfl rfl (fr_pc (pc' := 16) rfl ?_)
  refine fp_iload_n (i := 3) (x := p3) dd_Mo_uses_16 rfl rfl (fr_pc (pc' := 17) rfl ?_)
  refine fr_callS (stk := [sf_rv x2]) (ok_Mo_ticketAt x1 p2 p3) mt_Mo_ticketAt rfl rfl sw_1288 sw_1289 (by decide) (Nat.le_of_ble_eq_true rfl) dd_Mo_uses_17 (fun x3 => fr_to (pc' := 20) (env' := [some (sf_rv p0), some (.int p1), some (.int p2), some (.int p3), some (.int x1), none]) (stk' := [.int x3, sf_rv x2]) rfl rfl rfl ?_)
  refine fp_dup2 dd_Mo_uses_20 (fr_pc (pc' := 21) rfl ?_)
  refine fr_aI0 dd_Mo_uses_21 (fun x4 => fr_pc (pc' := 22) rfl ?_)
  refine fp_iconst (v := (1 : Int32)) dd_Mo_uses_22 (by decide) (fr_pc (pc' := 23) rfl ?_)
  refine fp_isub dd_Mo_uses_23 (fr_pc (pc' := 24) rfl ?_)
  refine fr_sI0 dd_Mo_uses_24 (fr_pc (pc' := 25) rfl ?_)
  refine fp_iload (i := 4) (x := x1) dd_Mo_uses_25 rfl (fr_pc (pc' := 27) rfl ?_)
  refine fp_iconst (v := (1 : Int32)) dd_Mo_uses_27 (by decide) (fr_pc (pc' := 28) rfl ?_)
  refine fr_icmp_eq (tgt := 32) dd_Mo_uses_28 rfl (fun _ => ?_) (fun _ => ?_)
  · refine fp_iconst (v := (2 : Int32)) dd_Mo_uses_32 (by decide) (fr_pc (pc' := 33) rfl ?_)
    refine fp_iload_n (i := 3) (x := p3) dd_Mo_uses_33 rfl rfl (fr_pc (pc' := 34) rfl ?_)
    refine fp_iload_n (i := 2) (x := p2) dd_Mo_uses_34 rfl rfl (fr_pc (pc' := 35) rfl ?_)
    refine fr_callS (stk := []) (ok_Mo_ticketAt (2 : Int32) p3 p2) mt_Mo_ticketAt rfl rfl sw_1288 sw_1289 (by decide) (Nat.le_of_ble_eq_true rfl) dd_Mo_uses_35 (fun x6 => fr_to (pc' := 38) (env' := [some (sf_rv p0), some (.int p1), some (.int p2), some (.int p3), some (.int x1), none]) (stk' := [.int x6]) rfl rfl rfl ?_)
    refine fp_istore (i := 5) dd_Mo_uses_38 (Nat.le_of_ble_eq_true rfl) (fun _ => c1_i rfl) (fr_to (pc' := 40) (env' := [some (sf_rv p0), some (.int p1), some (.int p2), some (.int p3), some (.int x1), some (.int x6)]) (stk' := []) rfl rfl rfl ?_)
    refine fp_aload_n (i := 0) (r := p0) dd_Mo_uses_40 rfl rfl (fr_pc (pc' := 41) rfl ?_)
    refine fr_gR cl_11 2 (by decide) rfl sw_1074 dd_Mo_uses_41 (fun x7 => fr_pc (pc' := 44) rfl ?_)
    refine fp_iload (i := 5) (x := x6) dd_Mo_uses_44 rfl (fr_pc (pc' := 46) rfl ?_)
    refine fp_bipush (v := (9 : Int32)) dd_Mo_uses_46 (by decide) (fr_pc (pc' := 48) rfl ?_)
    refine fp_aload_n (i := 0) (r := p0) dd_Mo_uses_48 rfl rfl (fr_pc (pc' := 49) rfl ?_)
    refine fr_gR cl_11 2 (by decide) rfl sw_1074 dd_Mo_uses_49 (fun x8 => fr_pc (pc' := 52) rfl ?_)
    refine fp_iload (i := 5) (x := x6) dd_Mo_uses_52 rfl (fr_pc (pc' := 54) rfl ?_)
    refine fr_aI0 dd_Mo_uses_54 (fun x9 => fr_pc (pc' := 55) rfl ?_)
    refine fp_iconst (v := (1 : Int32)) dd_Mo_uses_55 (by decide) (fr_pc (pc' := 56) rfl ?_)
    refine fp_iadd dd_Mo_uses_56 (fr_pc (pc' := 57) rfl ?_)
    refine fr_callS (stk := [.int x6, sf_rv x7]) (ok_Mo_lesser (9 : Int32) (x9 + (1 : Int32))) mt_Mo_lesser rfl rfl sw_1540 sw_1541 (by decide) (Nat.le_of_ble_eq_true rfl) dd_Mo_uses_57 (fun x10 => fr_to (pc' := 60) (env' := [some (sf_rv p0), some (.int p1), some (.int p2), some (.int p3), some (.int x1), some (.int x6)]) (stk' := [.int x10, .int x6, sf_rv x7]) rfl rfl rfl ?_)
    refine fr_sI0 dd_Mo_uses_60 (fr_pc (pc' := 61) rfl ?_)
    exact fr_vret rfl rfl dd_Mo_uses_61
  · refine fr_pc (pc' := 31) rfl ?_
    exact fr_vret rfl rfl dd_Mo_uses_31
theorem mt_Mo_rides : sf_Mt ({ cls := "SplitFaresModel", name := "rides", desc := "(I)I" } : Jvm.MethodName) prog_13_method_111_code 5 (some .int) 1 := ⟨sw_1667, sw_12, ⟨by decide, by decide, by decide +kernel⟩, by decide⟩
theorem dd_Mo_rides_0 : decode prog_13_method_111_code 0 = .ok (.aload_n 0, 1) := by decide +kernel
theorem dd_Mo_rides_1 : decode prog_13_method_111_code 1 = .ok (.getfield 76, 3) := by decide +kernel
theorem dd_Mo_rides_4 : decode prog_13_method_111_code 4 = .ok (.iconst 0, 1) := by decide +kernel
theorem dd_Mo_rides_5 : decode prog_13_method_111_code 5 = .ok (.iaload, 1) := by decide +kernel
theorem dd_Mo_rides_6 : decode prog_13_method_111_code 6 = .ok (.istore_n 2, 1) := by decide +kernel
theorem dd_Mo_rides_7 : decode prog_13_method_111_code 7 = .ok (.iconst 0, 1) := by decide +kernel
theorem dd_Mo_rides_8 : decode prog_13_method_111_code 8 = .ok (.istore_n 3, 1) := by decide +kernel
theorem dd_Mo_rides_9 : decode prog_13_method_111_code 9 = .ok (.iload_n 3, 1) := by decide +kernel
theorem dd_Mo_rides_10 : decode prog_13_method_111_code 10 = .ok (.aload_n 0, 1) := by decide +kernel
theorem dd_Mo_rides_11 : decode prog_13_method_111_code 11 = .ok (.getfield 345, 3) := by decide +kernel
theorem dd_Mo_rides_14 : decode prog_13_method_111_code 14 = .ok (.iconst 1, 1) := by decide +kernel
theorem dd_Mo_rides_15 : decode prog_13_method_111_code 15 = .ok (.isub, 1) := by decide +kernel
theorem dd_Mo_rides_16 : decode prog_13_method_111_code 16 = .ok (.if_icmp .ge 34, 3) := by decide +kernel
theorem dd_Mo_rides_19 : decode prog_13_method_111_code 19 = .ok (.aload_n 0, 1) := by decide +kernel
theorem dd_Mo_rides_20 : decode prog_13_method_111_code 20 = .ok (.iload_n 3, 1) := by decide +kernel
theorem dd_Mo_rides_21 : decode prog_13_method_111_code 21 = .ok (.invokevirtual 358, 3) := by decide +kernel
theorem dd_Mo_rides_24 : decode prog_13_method_111_code 24 = .ok (.istore 4, 2) := by decide +kernel
theorem dd_Mo_rides_26 : decode prog_13_method_111_code 26 = .ok (.aload_n 0, 1) := by decide +kernel
theorem dd_Mo_rides_27 : decode prog_13_method_111_code 27 = .ok (.iload_n 1, 1) := by decide +kernel
theorem dd_Mo_rides_28 : decode prog_13_method_111_code 28 = .ok (.aload_n 0, 1) := by decide +kernel
theorem dd_Mo_rides_29 : decode prog_13_method_111_code 29 = .ok (.getfield 70, 3) := by decide +kernel
theorem dd_Mo_rides_32 : decode prog_13_method_111_code 32 = .ok (.iload_n 3, 1) := by decide +kernel
theorem dd_Mo_rides_33 : decode prog_13_method_111_code 33 = .ok (.iaload, 1) := by decide +kernel
theorem dd_Mo_rides_34 : decode prog_13_method_111_code 34 = .ok (.aload_n 0, 1) := by decide +kernel
theorem dd_Mo_rides_35 : decode prog_13_method_111_code 35 = .ok (.getfield 70, 3) := by decide +kernel
theorem dd_Mo_rides_38 : decode prog_13_method_111_code 38 = .ok (.iload 4, 2) := by decide +kernel
theorem dd_Mo_rides_40 : decode prog_13_method_111_code 40 = .ok (.iaload, 1) := by decide +kernel
theorem dd_Mo_rides_41 : decode prog_13_method_111_code 41 = .ok (.invokevirtual 410, 3) := by decide +kernel
theorem dd_Mo_rides_44 : decode prog_13_method_111_code 44 = .ok (.iload 4, 2) := by decide +kernel
theorem dd_Mo_rides_46 : decode prog_13_method_111_code 46 = .ok (.istore_n 3, 1) := by decide +kernel
theorem dd_Mo_rides_47 : decode prog_13_method_111_code 47 = .ok (.goto (-38), 3) := by decide +kernel
theorem dd_Mo_rides_50 : decode prog_13_method_111_code 50 = .ok (.aload_n 0, 1) := by decide +kernel
theorem dd_Mo_rides_51 : decode prog_13_method_111_code 51 = .ok (.getfield 32, 3) := by decide +kernel
theorem dd_Mo_rides_54 : decode prog_13_method_111_code 54 = .ok (.sipush 192, 3) := by decide +kernel
theorem dd_Mo_rides_57 : decode prog_13_method_111_code 57 = .ok (.aload_n 0, 1) := by decide +kernel
theorem dd_Mo_rides_58 : decode prog_13_method_111_code 58 = .ok (.getfield 70, 3) := by decide +kernel
theorem dd_Mo_rides_61 : decode prog_13_method_111_code 61 = .ok (.iload_n 3, 1) := by decide +kernel
theorem dd_Mo_rides_62 : decode prog_13_method_111_code 62 = .ok (.iaload, 1) := by decide +kernel
theorem dd_Mo_rides_63 : decode prog_13_method_111_code 63 = .ok (.iastore, 1) := by decide +kernel
theorem dd_Mo_rides_64 : decode prog_13_method_111_code 64 = .ok (.iload_n 2, 1) := by decide +kernel
theorem dd_Mo_rides_65 : decode prog_13_method_111_code 65 = .ok (.ireturn, 1) := by decide +kernel
def jx_Mo_rides (p0 : Option Nat) (p1 : Int32) : sf_M (Int32) :=
  sf_bnd (sf_gR 11 32 p0) fun x1 =>
  sf_bnd (sf_aI 0 x1 (0 : Int32)) fun x2 =>
  sf_bnd (sf_loop (β := (Int32)) (γ := (Int32)) (fun b3 =>
  sf_bnd (sf_gI 11 30 p0) fun x4 =>
  if (x4 - (1 : Int32)) ≤ b3 then (
  sf_ret (.inr b3)
  ) else (
  sf_bnd (sf_rc 11 p0 (jx_Mo_nextOf p0 b3)) fun x6 =>
  sf_bnd (sf_gR 11 29 p0) fun x7 =>
  sf_bnd (sf_aI 0 x7 b3) fun x8 =>
  sf_bnd (sf_gR 11 29 p0) fun x9 =>
  sf_bnd (sf_aI 0 x9 x6) fun x10 =>
  sf_bnd (sf_rc 11 p0 (jx_Mo_uses p0 p1 x8 x10)) fun _ =>
  sf_ret (.inl x6)
  )
  ) sf_fuel (0 : Int32)) (fun e12 =>
  sf_bnd (sf_gR 11 2 p0) fun x13 =>
  sf_bnd (sf_gR 11 29 p0) fun x14 =>
  sf_bnd (sf_aI 0 x14 e12) fun x15 =>
  sf_bnd (sf_sI 0 x13 (192 : Int32) x15) fun _ =>
  sf_ret x2
  )
set_option maxRecDepth 20000 in
set_option maxHeartbeats 4000000 in
theorem ok_Mo_rides (p0 : Option Nat) (p1 : Int32) : sf_Ok ({ cls := "SplitFaresModel", name := "rides", desc := "(I)I" } : Jvm.MethodName) prog_13_method_111_code 5 (some .int) 210 [sf_rv p0, .int p1] (jx_Mo_rides p0 p1) (fun r => some (.int r)) := by
  refine sf_Ok.of (env := [some (sf_rv p0), some (.int p1), none, none, none]) (plainFor_of_name (by decide)) [false, false] (fun G => ⟨pk_r, pk_i, trivial⟩) (Nat.le_of_ble_eq_true rfl) rfl (fun X => ?_)
  unfold jx_Mo_rides
  refine fp_aload_n (i := 0) (r := p0) dd_Mo_rides_0 rfl rfl (fr_pc (pc' := 1) rfl ?_)
  refine fr_gR cl_11 32 (by decide) rfl sw_1104 dd_Mo_rides_1 (fun x1 => fr_pc (pc' := 4) rfl ?_)
  refine fp_iconst (v := (0 : Int32)) dd_Mo_rides_4 (by decide) (fr_pc (pc' := 5) rfl ?_)
  refine fr_aI0 dd_Mo_rides_5 (fun x2 => fr_pc (pc' := 6) rfl ?_)
  refine fp_istore_n (i := 2) dd_Mo_rides_6 rfl (Nat.le_of_ble_eq_true rfl) (fun _ => c1_i rfl) (fr_to (pc' := 7) (env' := [some (sf_rv p0), some (.int p1), some (.int x2), none, none]) (stk' := []) rfl rfl rfl ?_)
  refine fp_iconst (v := (0 : Int32)) dd_Mo_rides_7 (by decide) (fr_pc (pc' := 8) rfl ?_)
  refine fp_istore_n (i := 3) dd_Mo_rides_8 rfl (Nat.le_of_ble_eq_true rfl) (fun _ => c1_i rfl) (fr_to (pc' := 9) (env' := [some (sf_rv p0), some (.int p1), some (.int x2), some (.int (0 : Int32)), none]) (stk' := []) rfl rfl rfl ?_)
  refine fr_to (pc' := 9) (env' := [some (sf_rv p0), some (.int p1), some (.int x2), some (.int (0 : Int32)), none]) (stk' := []) rfl rfl rfl ?_
  refine fr_bnd (l1 := (fun (e12 : (Int32)) => sf_p 50 [some (sf_rv p0), some (.int p1), some (.int x2), some (.int e12), none] [])) (fr_loop (Lb := (fun (b3 : (Int32)) => sf_p 9 [some (sf_rv p0), some (.int p1), some (.int x2), some (.int b3), none] [])) (fun b3 => ?_) _ _) (fun e12 => ?_)
  · refine fp_iload_n (i := 3) (x := b3) dd_Mo_rides_9 rfl rfl (fr_pc (pc' := 10) rfl ?_)
    refine fp_aload_n (i := 0) (r := p0) dd_Mo_rides_10 rfl rfl (fr_pc (pc' := 11) rfl ?_)
    refine fr_gI cl_11 30 (by decide) rfl sw_1102 dd_Mo_rides_11 (fun x4 => fr_pc (pc' := 14) rfl ?_)
    refine fp_iconst (v := (1 : Int32)) dd_Mo_rides_14 (by decide) (fr_pc (pc' := 15) rfl ?_)
    refine fp_isub dd_Mo_rides_15 (fr_pc (pc' := 16) rfl ?_)
    refine fr_icmp_ge (tgt := 50) dd_Mo_rides_16 rfl (fun _ => ?_) (fun _ => ?_)
    · exact fr_ret rfl
    · refine fr_pc (pc' := 19) rfl ?_
      refine fp_aload_n (i := 0) (r := p0) dd_Mo_rides_19 rfl rfl (fr_pc (pc' := 20) rfl ?_)
      refine fp_iload_n (i := 3) (x := b3) dd_Mo_rides_20 rfl rfl (fr_pc (pc' := 21) rfl ?_)
      refine fr_callV (stk := []) (As := [.int b3]) cl_11 (ok_Mo_nextOf p0 b3) mt_Mo_nextOf rfl rfl sw_1551 sw_1553 sp_78 (by decide) (Nat.le_of_ble_eq_true rfl) dd_Mo_rides_21 (fun x6 => fr_to (pc' := 24) (env' := [some (sf_rv p0), some (.int p1), some (.int x2), some (.int b3), none]) (stk' := [.int x6]) rfl rfl rfl ?_)
      refine fp_istore (i := 4) dd_Mo_rides_24 (Nat.le_of_ble_eq_true rfl) (fun _ => c1_i rfl) (fr_to (pc' := 26) (env' := [some (sf_rv p0), some (.int p1), some (.int x2), some (.int b3), some (.int x6)]) (stk' := []) rfl rfl rfl ?_)
      refine fp_aload_n (i := 0) (r := p0) dd_Mo_rides_26 rfl rfl (fr_pc (pc' := 27) rfl ?_)
      refine fp_iload_n (i := 1) (x := p1) dd_Mo_rides_27 rfl rfl (fr_pc (pc' := 28) rfl ?_)
      refine fp_aload_n (i := 0) (r := p0) dd_Mo_rides_28 rfl rfl (fr_pc (pc' := 29) rfl ?_)
      refine fr_gR cl_11 29 (by decide) rfl sw_1101 dd_Mo_rides_29 (fun x7 => fr_pc (pc' := 32) rfl ?_)
      refine fp_iload_n (i := 3) (x := b3) dd_Mo_rides_32 rfl rfl (fr_pc (pc' := 33) rfl ?_)
      refine fr_aI0 dd_Mo_rides_33 (fun x8 => fr_pc (pc' := 34) rfl ?_)
      refine fp_aload_n (i := 0) (r := p0) dd_Mo_rides_34 rfl rfl (fr_pc (pc' := 35) rfl ?_)
      refine fr_gR cl_11 29 (by decide) rfl sw_1101 dd_Mo_rides_35 (fun x9 => fr_pc (pc' := 38) rfl ?_)
      refine fp_iload (i := 4) (x := x6) dd_Mo_rides_38 rfl (fr_pc (pc' := 40) rfl ?_)
      refine fr_aI0 dd_Mo_rides_40 (fun x10 => fr_pc (pc' := 41) rfl ?_)
      refine fr_callV (stk := []) (As := [.int p1, .int x8, .int x10]) cl_11 (ok_Mo_uses p0 p1 x8 x10) mt_Mo_uses rfl rfl sw_1668 sw_1670 sp_94 (by decide) (Nat.le_of_ble_eq_true rfl) dd_Mo_rides_41 (fun u11 => fr_to (pc' := 44) (env' := [some (sf_rv p0), some (.int p1), some (.int x2), some (.int b3), some (.int x6)]) (stk' := []) rfl rfl rfl ?_)
      refine fp_iload (i := 4) (x := x6) dd_Mo_rides_44 rfl (fr_pc (pc' := 46) rfl ?_)
      refine fp_istore_n (i := 3) dd_Mo_rides_46 rfl (Nat.le_of_ble_eq_true rfl) (fun _ => c1_i rfl) (fr_to (pc' := 47) (env' := [some (sf_rv p0), some (.int p1), some (.int x2), some (.int x6), some (.int x6)]) (stk' := []) rfl rfl rfl ?_)
      refine fp_goto (tgt := 9) dd_Mo_rides_47 rfl ?_
      refine fr_wk [true, true, true, true, false] ?_
      exact fr_ret rfl
  · refine fp_aload_n (i := 0) (r := p0) dd_Mo_rides_50 rfl rfl (fr_pc (pc' := 51) rfl ?_)
    refine fr_gR cl_11 2 (by decide) rfl sw_1074 dd_Mo_rides_51 (fun x13 => fr_pc (pc' := 54) rfl ?_)
    refine fp_sipush (v := (192 : Int32)) dd_Mo_rides_54 (by decide) (fr_pc (pc' := 57) rfl ?_)
    refine fp_aload_n (i := 0) (r := p0) dd_Mo_rides_57 rfl rfl (fr_pc (pc' := 58) rfl ?_)
    refine fr_gR cl_11 29 (by decide) rfl sw_1101 dd_Mo_rides_58 (fun x14 => fr_pc (pc' := 61) rfl ?_)
    refine fp_iload_n (i := 3) (x := e12) dd_Mo_rides_61 rfl rfl (fr_pc (pc' := 62) rfl ?_)
    refine fr_aI0 dd_Mo_rides_62 (fun x15 => fr_pc (pc' := 63) rfl ?_)
    refine fr_sI0 dd_Mo_rides_63 (fr_pc (pc' := 64) rfl ?_)
    refine fp_iload_n (i := 2) (x := x2) dd_Mo_rides_64 rfl rfl (fr_pc (pc' := 65) rfl ?_)
    exact fr_iret (v := x2) rfl rfl dd_Mo_rides_65
theorem mt_Mo_dayPasses : sf_Mt ({ cls := "SplitFaresModel", name := "dayPasses", desc := "()I" } : Jvm.MethodName) prog_13_method_113_code 3 (some .int) 0 := ⟨sw_1692, sw_12, ⟨by decide, by decide, by decide +kernel⟩, by decide⟩
theorem dd_Mo_dayPasses_0 : decode prog_13_method_113_code 0 = .ok (.aload_n 0, 1) := by decide +kernel
theorem dd_Mo_dayPasses_1 : decode prog_13_method_113_code 1 = .ok (.iconst 2, 1) := by decide +kernel
theorem dd_Mo_dayPasses_2 : decode prog_13_method_113_code 2 = .ok (.iconst 2, 1) := by decide +kernel
theorem dd_Mo_dayPasses_3 : decode prog_13_method_113_code 3 = .ok (.invokevirtual 147, 3) := by decide +kernel
theorem dd_Mo_dayPasses_6 : decode prog_13_method_113_code 6 = .ok (.istore_n 1, 1) := by decide +kernel
theorem dd_Mo_dayPasses_7 : decode prog_13_method_113_code 7 = .ok (.iconst 0, 1) := by decide +kernel
theorem dd_Mo_dayPasses_8 : decode prog_13_method_113_code 8 = .ok (.istore_n 2, 1) := by decide +kernel
theorem dd_Mo_dayPasses_9 : decode prog_13_method_113_code 9 = .ok (.iload_n 2, 1) := by decide +kernel
theorem dd_Mo_dayPasses_10 : decode prog_13_method_113_code 10 = .ok (.bipush 64, 2) := by decide +kernel
theorem dd_Mo_dayPasses_12 : decode prog_13_method_113_code 12 = .ok (.if_icmp .ge 20, 3) := by decide +kernel
theorem dd_Mo_dayPasses_15 : decode prog_13_method_113_code 15 = .ok (.aload_n 0, 1) := by decide +kernel
theorem dd_Mo_dayPasses_16 : decode prog_13_method_113_code 16 = .ok (.getfield 32, 3) := by decide +kernel
theorem dd_Mo_dayPasses_19 : decode prog_13_method_113_code 19 = .ok (.sipush 128, 3) := by decide +kernel
theorem dd_Mo_dayPasses_22 : decode prog_13_method_113_code 22 = .ok (.iload_n 2, 1) := by decide +kernel
theorem dd_Mo_dayPasses_23 : decode prog_13_method_113_code 23 = .ok (.iadd, 1) := by decide +kernel
theorem dd_Mo_dayPasses_24 : decode prog_13_method_113_code 24 = .ok (.iconst 0, 1) := by decide +kernel
theorem dd_Mo_dayPasses_25 : decode prog_13_method_113_code 25 = .ok (.iastore, 1) := by decide +kernel
theorem dd_Mo_dayPasses_26 : decode prog_13_method_113_code 26 = .ok (.iinc 2 1, 3) := by decide +kernel
theorem dd_Mo_dayPasses_29 : decode prog_13_method_113_code 29 = .ok (.goto (-20), 3) := by decide +kernel
theorem dd_Mo_dayPasses_32 : decode prog_13_method_113_code 32 = .ok (.aload_n 0, 1) := by decide +kernel
theorem dd_Mo_dayPasses_33 : decode prog_13_method_113_code 33 = .ok (.getfield 32, 3) := by decide +kernel
theorem dd_Mo_dayPasses_36 : decode prog_13_method_113_code 36 = .ok (.sipush 194, 3) := by decide +kernel
theorem dd_Mo_dayPasses_39 : decode prog_13_method_113_code 39 = .ok (.dup2, 1) := by decide +kernel
theorem dd_Mo_dayPasses_40 : decode prog_13_method_113_code 40 = .ok (.iaload, 1) := by decide +kernel
theorem dd_Mo_dayPasses_41 : decode prog_13_method_113_code 41 = .ok (.iconst 1, 1) := by decide +kernel
theorem dd_Mo_dayPasses_42 : decode prog_13_method_113_code 42 = .ok (.iadd, 1) := by decide +kernel
theorem dd_Mo_dayPasses_43 : decode prog_13_method_113_code 43 = .ok (.iastore, 1) := by decide +kernel
theorem dd_Mo_dayPasses_44 : decode prog_13_method_113_code 44 = .ok (.iload_n 1, 1) := by decide +kernel
theorem dd_Mo_dayPasses_45 : decode prog_13_method_113_code 45 = .ok (.ireturn, 1) := by decide +kernel
def jx_Mo_dayPasses (p0 : Option Nat) : sf_M (Int32) :=
  sf_bnd (sf_rc 11 p0 (jx_Mo_heldOf p0 (2 : Int32) (2 : Int32))) fun x1 =>
  sf_bnd (sf_loop (β := (Int32)) (γ := (Unit)) (fun b2 =>
  if (64 : Int32) ≤ b2 then (
  sf_ret (.inr ())
  ) else (
  sf_bnd (sf_gR 11 2 p0) fun x4 =>
  sf_bnd (sf_sI 0 x4 ((128 : Int32) + b2) (0 : Int32)) fun _ =>
  sf_bnd (sf_ret (b2 + (1 : Int32))) fun y5 =>
  sf_ret (.inl y5)
  )
  ) sf_fuel (0 : Int32)) (fun e6 =>
  sf_bnd (sf_gR 11 2 p0) fun x7 =>
  sf_bnd (sf_aI 0 x7 (194 : Int32)) fun x8 =>
  sf_bnd (sf_sI 0 x7 (194 : Int32) (x8 + (1 : Int32))) fun _ =>
  sf_ret x1
  )
set_option maxRecDepth 20000 in
set_option maxHeartbeats 4000000 in
theorem ok_Mo_dayPasses (p0 : Option Nat) : sf_Ok ({ cls := "SplitFaresModel", name := "dayPasses", desc := "()I" } : Jvm.MethodName) prog_13_method_113_code 3 (some .int) 1 [sf_rv p0] (jx_Mo_dayPasses p0) (fun r => some (.int r)) := by
  refine sf_Ok.of (env := [some (sf_rv p0), none, none]) (plainFor_of_name (by decide)) [false] (fun G => ⟨pk_r, trivial⟩) (Nat.le_of_ble_eq_true rfl) rfl (fun X => ?_)
  unfold jx_Mo_dayPasses
  refine fp_aload_n (i := 0) (r := p0) dd_Mo_dayPasses_0 rfl rfl (fr_pc (pc' := 1) rfl ?_)
  refine fp_iconst (v := (2 : Int32)) dd_Mo_dayPasses_1 (by decide) (fr_pc (pc' := 2) rfl ?_)
  refine fp_iconst (v := (2 : Int32)) dd_Mo_dayPasses_2 (by decide) (fr_pc (pc' := 3) rfl ?_)
  refine fr_callV (stk := []) (As := [.int (2 : Int32), .int (2 : Int32)]) cl_11 (ok_Mo_heldOf p0 (2 : Int32) (2 : Int32)) mt_Mo_heldOf rfl rfl sw_1473 sw_1475 sp_63 (by decide) (Nat.le_of_ble_eq_true rfl) dd_Mo_dayPasses_3 (fun x1 => fr_to (pc' := 6) (env' := [some (sf_rv p0), none, none]) (stk' := [.int x1]) rfl rfl rfl ?_)
  refine fp_istore_n (i := 1) dd_Mo_dayPasses_6 rfl (Nat.le_of_ble_eq_true rfl) (fun _ => c1_r rfl) (fr_to (pc' := 7) (env' := [some (sf_rv p0), some (.int x1), none]) (stk' := []) rfl rfl rfl ?_)
  refine fp_iconst (v := (0 : Int32)) dd_Mo_dayPasses_7 (by decide) (fr_pc (pc' := 8) rfl ?_)
  refine fp_istore_n (i := 2) dd_Mo_dayPasses_8 rfl (Nat.le_of_ble_eq_true rfl) (fun _ => c1_i rfl) (fr_to (pc' := 9) (env' := [some (sf_rv p0), some (.int x1), some (.int (0 : Int32))]) (stk' := []) rfl rfl rfl ?_)
  refine fr_to (pc' := 9) (env' := [some (sf_rv p0), some (.int x1), some (.int (0 : Int32))]) (stk' := []) rfl rfl rfl ?_
  refine fr_bnd (l1 := (fun (e6 : (Unit)) => sf_p 32 [some (sf_rv p0), some (.int x1), none] [])) (fr_loop (Lb := (fun (b2 : (Int32)) => sf_p 9 [some (sf_rv p0), some (.int x1), some (.int b2)] [])) (fun b2 => ?_) _ _) (fun e6 => ?_)
  · refine fp_iload_n (i := 2) (x := b2) dd_Mo_dayPasses_9 rfl rfl (fr_pc (pc' := 10) rfl ?_)
    refine fp_bipush (v := (64 : Int32)) dd_Mo_dayPasses_10 (by decide) (fr_pc (pc' := 12) rfl ?_)
    refine fr_icmp_ge (tgt := 32) dd_Mo_dayPasses_12 rfl (fun _ => ?_) (fun _ => ?_)
    · refine fr_wk [true, true, false] ?_
      exact fr_ret rfl
    · refine fr_pc (pc' := 15) rfl ?_
      refine fp_aload_n (i := 0) (r := p0) dd_Mo_dayPasses_15 rfl rfl (fr_pc (pc' := 16) rfl ?_)
      refine fr_gR cl_11 2 (by decide) rfl sw_1074 dd_Mo_dayPasses_16 (fun x4 => fr_pc (pc' := 19) rfl ?_)
      refine fp_sipush (v := (128 : Int32)) dd_Mo_dayPasses_19 (by decide) (fr_pc (pc' := 22) rfl ?_)
      refine fp_iload_n (i := 2) (x := b2) dd_Mo_dayPasses_22 rfl rfl (fr_pc (pc' := 23) rfl ?_)
      refine fp_iadd dd_Mo_dayPasses_23 (fr_pc (pc' := 24) rfl ?_)
      refine fp_iconst (v := (0 : Int32)) dd_Mo_dayPasses_24 (by decide) (fr_pc (pc' := 25) rfl ?_)
      refine fr_sI0 dd_Mo_dayPasses_25 (fr_pc (pc' := 26) rfl ?_)
      refine fr_niinc (i := 2) (x := b2) (w := (1 : Int32)) dd_Mo_dayPasses_26 rfl (by decide) (Nat.le_of_ble_eq_true rfl) (fun _ => c1_i rfl) (fun y5 => fr_to (pc' := 29) (env' := [some (sf_rv p0), some (.int x1), some (.int y5)]) (stk' := []) rfl rfl rfl ?_)
      refine fp_goto (tgt := 9) dd_Mo_dayPasses_29 rfl ?_
      exact fr_ret rfl
  · refine fp_aload_n (i := 0) (r := p0) dd_Mo_dayPasses_32 rfl rfl (fr_pc (pc' := 33) rfl ?_)
    refine fr_gR cl_11 2 (by decide) rfl sw_1074 dd_Mo_dayPasses_33 (fun x7 => fr_pc (pc' := 36) rfl ?_)
    refine fp_sipush (v := (194 : Int32)) dd_Mo_dayPasses_36 (by decide) (fr_pc (pc' := 39) rfl ?_)
    refine fp_dup2 dd_Mo_dayPasses_39 (fr_pc (pc' := 40) rfl ?_)
    refine fr_aI0 dd_Mo_dayPasses_40 (fun x8 => fr_pc (pc' := 41) rfl ?_)
    refine fp_iconst (v := (1 : Int32)) dd_Mo_dayPasses_41 (by decide) (fr_pc (pc' := 42) rfl ?_)
    refine fp_iadd dd_Mo_dayPasses_42 (fr_pc (pc' := 43) rfl ?_)
    refine fr_sI0 dd_Mo_dayPasses_43 (fr_pc (pc' := 44) rfl ?_)
    refine fp_iload_n (i := 1) (x := x1) dd_Mo_dayPasses_44 rfl rfl (fr_pc (pc' := 45) rfl ?_)
    exact fr_iret (v := x1) rfl rfl dd_Mo_dayPasses_45
theorem mt_Mo_buysKept : sf_Mt ({ cls := "SplitFaresModel", name := "buysKept", desc := "(III)I" } : Jvm.MethodName) prog_13_method_114_code 4 (some .int) 3 := ⟨sw_1623, sw_12, ⟨by decide, by decide, by decide +kernel⟩, by decide⟩
theorem dd_Mo_buysKept_0 : decode prog_13_method_114_code 0 = .ok (.iload_n 1, 1) := by decide +kernel
theorem dd_Mo_buysKept_1 : decode prog_13_method_114_code 1 = .ok (.iconst 0, 1) := by decide +kernel
theorem dd_Mo_buysKept_2 : decode prog_13_method_114_code 2 = .ok (.iconst 1, 1) := by decide +kernel
theorem dd_Mo_buysKept_3 : decode prog_13_method_114_code 3 = .ok (.invokestatic 18, 3) := by decide +kernel
theorem dd_Mo_buysKept_6 : decode prog_13_method_114_code 6 = .ok (.ifCond .eq 11, 3) := by decide +kernel
theorem dd_Mo_buysKept_9 : decode prog_13_method_114_code 9 = .ok (.iload_n 2, 1) := by decide +kernel
theorem dd_Mo_buysKept_10 : decode prog_13_method_114_code 10 = .ok (.iload_n 3, 1) := by decide +kernel
theorem dd_Mo_buysKept_11 : decode prog_13_method_114_code 11 = .ok (.invokestatic 139, 3) := by decide +kernel
theorem dd_Mo_buysKept_14 : decode prog_13_method_114_code 14 = .ok (.ifCond .ne 5, 3) := by decide +kernel
theorem dd_Mo_buysKept_19 : decode prog_13_method_114_code 19 = .ok (.aload_n 0, 1) := by decide +kernel
theorem dd_Mo_buysKept_20 : decode prog_13_method_114_code 20 = .ok (.iload_n 1, 1) := by decide +kernel
theorem dd_Mo_buysKept_21 : decode prog_13_method_114_code 21 = .ok (.iload_n 2, 1) := by decide +kernel
theorem dd_Mo_buysKept_22 : decode prog_13_method_114_code 22 = .ok (.iload_n 3, 1) := by decide +kernel
theorem dd_Mo_buysKept_23 : decode prog_13_method_114_code 23 = .ok (.invokevirtual 413, 3) := by decide +kernel
theorem dd_Mo_buysKept_26 : decode prog_13_method_114_code 26 = .ok (.ifCond .ne 6, 3) := by decide +kernel
theorem dd_Mo_buysKept_29 : decode prog_13_method_114_code 29 = .ok (.bipush (-3), 2) := by decide +kernel
theorem dd_Mo_buysKept_31 : decode prog_13_method_114_code 31 = .ok (.ireturn, 1) := by decide +kernel
theorem dd_Mo_buysKept_32 : decode prog_13_method_114_code 32 = .ok (.aload_n 0, 1) := by decide +kernel
theorem dd_Mo_buysKept_33 : decode prog_13_method_114_code 33 = .ok (.iconst 0, 1) := by decide +kernel
theorem dd_Mo_buysKept_34 : decode prog_13_method_114_code 34 = .ok (.invokevirtual 416, 3) := by decide +kernel
theorem dd_Mo_buysKept_37 : decode prog_13_method_114_code 37 = .ok (.aload_n 0, 1) := by decide +kernel
theorem dd_Mo_buysKept_38 : decode prog_13_method_114_code 38 = .ok (.iload_n 1, 1) := by decide +kernel
theorem dd_Mo_buysKept_39 : decode prog_13_method_114_code 39 = .ok (.iload_n 2, 1) := by decide +kernel
theorem dd_Mo_buysKept_40 : decode prog_13_method_114_code 40 = .ok (.iload_n 3, 1) := by decide +kernel
theorem dd_Mo_buysKept_41 : decode prog_13_method_114_code 41 = .ok (.invokevirtual 419, 3) := by decide +kernel
theorem dd_Mo_buysKept_44 : decode prog_13_method_114_code 44 = .ok (.aload_n 0, 1) := by decide +kernel
theorem dd_Mo_buysKept_45 : decode prog_13_method_114_code 45 = .ok (.getfield 32, 3) := by decide +kernel
theorem dd_Mo_buysKept_48 : decode prog_13_method_114_code 48 = .ok (.sipush 193, 3) := by decide +kernel
theorem dd_Mo_buysKept_51 : decode prog_13_method_114_code 51 = .ok (.iaload, 1) := by decide +kernel
theorem dd_Mo_buysKept_52 : decode prog_13_method_114_code 52 = .ok (.ireturn, 1) := by decide +kernel
theorem dd_Mo_buysKept_17 : decode prog_13_method_114_code 17 = .ok (.iconst (-1), 1) := by decide +kernel
theorem dd_Mo_buysKept_18 : decode prog_13_method_114_code 18 = .ok (.ireturn, 1) := by decide +kernel
def jx_Mo_buysKept (p0 : Option Nat) (p1 : Int32) (p2 : Int32) (p3 : Int32) : sf_M (Int32) :=
  sf_bnd (jx_Mo_lies p1 (0 : Int32) (1 : Int32)) fun x1 =>
  if x1 = 0 then (
  sf_ret (-1 : Int32)
  ) else (
  sf_bnd (jx_Mo_areTwo p2 p3) fun x3 =>
  if x3 = 0 then (
  sf_ret (-1 : Int32)
  ) else (
  sf_bnd (sf_rc 11 p0 (jx_Mo_canBuy p0 p1 p2 p3)) fun x5 =>
  if x5 = 0 then (
  sf_ret (-3 : Int32)
  ) else (
  sf_bnd (sf_rc 11 p0 (jx_Mo_keeps p0 (0 : Int32))) fun _ =>
  sf_bnd (sf_rc 11 p0 (jx_Mo_buys p0 p1 p2 p3)) fun _ =>
  sf_bnd (sf_gR 11 2 p0) fun x9 =>
  sf_bnd (sf_aI 0 x9 (193 : Int32)) fun x10 =>
  sf_ret x10
  )
  )
  )
set_option maxRecDepth 20000 in
set_option maxHeartbeats 4000000 in
theorem ok_Mo_buysKept (p0 : Option Nat) (p1 : Int32) (p2 : Int32) (p3 : Int32) : sf_Ok ({ cls := "SplitFaresModel", name := "buysKept", desc := "(III)I" } : Jvm.MethodName) prog_13_method_114_code 4 (some .int) 208 [sf_rv p0, .int p1, .int p2, .int p3] (jx_Mo_buysKept p0 p1 p2 p3) (fun r => some (.int r)) := by
  refine sf_Ok.of (env := [some (sf_rv p0), some (.int p1), some (.int p2), some (.int p3)]) (plainFor_of_name (by decide)) [false, false, false, false] (fun G => ⟨pk_r, pk_i, pk_i, pk_i, trivial⟩) (Nat.le_of_ble_eq_true rfl) rfl (fun X => ?_)
  unfold jx_Mo_buysKept
  refine fp_iload_n (i := 1) (x := p1) dd_Mo_buysKept_0 rfl rfl (fr_pc (pc' := 1) rfl ?_)
  refine fp_iconst (v := (0 : Int32)) dd_Mo_buysKept_1 (by decide) (fr_pc (pc' := 2) rfl ?_)
  refine fp_iconst (v := (1 : Int32)) dd_Mo_buysKept_2 (by decide) (fr_pc (pc' := 3) rfl ?_)
  refine fr_callS (stk := []) (ok_Mo_lies p1 (0 : Int32) (1 : Int32)) mt_Mo_lies rfl rfl sw_1237 sw_1238 (by decide) (Nat.le_of_ble_eq_true rfl) dd_Mo_buysKept_3 (fun x1 => fr_to (pc' := 6) (env' := [some (sf_rv p0), some (.int p1), some (.int p2), some (.int p3)]) (stk' := [.int x1]) rfl rfl rfl ?_)
  refine fr_if_eq (tgt := 17) dd_Mo_buysKept_6 rfl (fun _ => ?_) (fun _ => ?_)
  · refine fp_iconst (v := (-1 : Int32)) dd_Mo_buysKept_17 (by decide) (fr_pc (pc' := 18) rfl ?_)
    exact fr_iret (v := (-1 : Int32)) rfl rfl dd_Mo_buysKept_18
  · refine fr_pc (pc' := 9) rfl ?_
    refine fp_iload_n (i := 2) (x := p2) dd_Mo_buysKept_9 rfl rfl (fr_pc (pc' := 10) rfl ?_)
    refine fp_iload_n (i := 3) (x := p3) dd_Mo_buysKept_10 rfl rfl (fr_pc (pc' := 11) rfl ?_)
    refine fr_callS (stk := []) (ok_Mo_areTwo p2 p3) mt_Mo_areTwo rfl rfl sw_1282 sw_1283 (by decide) (Nat.le_of_ble_eq_true rfl) dd_Mo_buysKept_11 (fun x3 => fr_to (pc' := 14) (env' := [some (sf_rv p0), some (.int p1), some (.int p2), some (.int p3)]) (stk' := [.int x3]) rfl rfl rfl ?_)
    refine fr_if_ne (tgt := 19) dd_Mo_buysKept_14 rfl (fun _ => ?_) (fun _ => ?_)
    · refine fr_pc (pc' := 17) rfl ?_
      refine fp_iconst (v := (-1 : Int32)) dd_Mo_buysKept_17 (by decide) (fr_pc (pc' := 18) rfl ?_)
      exact fr_iret (v := (-1 : Int32)) rfl rfl dd_Mo_buysKept_18
    · refine fp_aload_n (i := 0) (r := p0) dd_Mo_buysKept_19 rfl rfl (fr_pc (pc' := 20) rfl ?_)
      refine fp_iload_n (i := 1) (x := p1) dd_Mo_buysKept_20 rfl rfl (fr_pc (pc' := 21) rfl ?_)
      refine fp_iload_n (i := 2) (x := p2) dd_Mo_buysKept_21 rfl rfl (fr_pc (pc' := 22) rfl ?_)
      refine fp_iload_n (i := 3) (x := p3) dd_Mo_buysKept_22 rfl rfl (fr_pc (pc' := 23) rfl ?_)
      refine fr_callV (stk := []) (As := [.int p1, .int p2, .int p3]) cl_11 (ok_Mo_canBuy p0 p1 p2 p3) mt_Mo_canBuy rfl rfl sw_1624 sw_1626 sp_84 (by decide) (Nat.le_of_ble_eq_true rfl) dd_Mo_buysKept_23 (fun x5 => fr_to (pc' := 26) (env' := [some (sf_rv p0), some (.int p1), some (.int p2), some (.int p3)]) (stk' := [.int x5]) rfl rfl rfl ?_)
      refine fr_if_ne (tgt := 32) dd_Mo_buysKept_26 rfl (fun _ => ?_) (fun _ => ?_)
      · refine fr_pc (pc' := 29) rfl ?_
        refine fp_bipush (v := (-3 : Int32)) dd_Mo_buysKept_29 (by decide) (fr_pc (pc' := 31) rfl ?_)
        exact fr_iret (v := (-3 : Int32)) rfl rfl dd_Mo_buysKept_31
      · refine fp_aload_n (i := 0) (r := p0) dd_Mo_buysKept_32 rfl rfl (fr_pc (pc' := 33) rfl ?_)
        refine fp_iconst (v := (0 : Int32)) dd_Mo_buysKept_33 (by decide) (fr_pc (pc' := 34) rfl ?_)
        refine fr_callV (stk := []) (As := [.int (0 : Int32)]) cl_11 (ok_Mo_keeps p0 (0 : Int32)) mt_Mo_keeps rfl rfl sw_1628 sw_1630 sp_85 (by decide) (Nat.le_of_ble_eq_true rfl) dd_Mo_buysKept_34 (fun u7 => fr_to (pc' := 37) (env' := [some (sf_rv p0), some (.int p1), some (.int p2), some (.int p3)]) (stk' := []) rfl rfl rfl ?_)
        refine fp_aload_n (i := 0) (r := p0) dd_Mo_buysKept_37 rfl rfl (fr_pc (pc' := 38) rfl ?_)
        refine fp_iload_n (i := 1) (x := p1) dd_Mo_buysKept_38 rfl rfl (fr_pc (pc' := 39) rfl ?_)
        refine fp_iload_n (i := 2) (x := p2) dd_Mo_buysKept_39 rfl rfl (fr_pc (pc' := 40) rfl ?_)
        refine fp_iload_n (i := 3) (x := p3) dd_Mo_buysKept_40 rfl rfl (fr_pc (pc' := 41) rfl ?_)
        refine fr_callV (stk := []) (As := [.int p1, .int p2, .int p3]) cl_11 (ok_Mo_buys p0 p1 p2 p3) mt_Mo_buys rfl rfl sw_1632 sw_1634 sp_86 (by decide) (Nat.le_of_ble_eq_true rfl) dd_Mo_buysKept_41 (fun u8 => fr_to (pc' := 44) (env' := [some (sf_rv p0), some (.int p1), some (.int p2), some (.int p3)]) (stk' := []) rfl rfl rfl ?_)
        refine fp_aload_n (i := 0) (r := p0) dd_Mo_buysKept_44 rfl rfl (fr_pc (pc' := 45) rfl ?_)
        refine fr_gR cl_11 2 (by decide) rfl sw_1074 dd_Mo_buysKept_45 (fun x9 => fr_pc (pc' := 48) rfl ?_)
        refine fp_sipush (v := (193 : Int32)) dd_Mo_buysKept_48 (by decide) (fr_pc (pc' := 51) rfl ?_)
        refine fr_aI0 dd_Mo_buysKept_51 (fun x10 => fr_pc (pc' := 52) rfl ?_)
        exact fr_iret (v := x10) rfl rfl dd_Mo_buysKept_52
theorem mt_Mo_ridesKept : sf_Mt ({ cls := "SplitFaresModel", name := "ridesKept", desc := "(II)I" } : Jvm.MethodName) prog_13_method_115_code 3 (some .int) 2 := ⟨sw_1647, sw_12, ⟨by decide, by decide, by decide +kernel⟩, by decide⟩
theorem dd_Mo_ridesKept_0 : decode prog_13_method_115_code 0 = .ok (.iload_n 2, 1) := by decide +kernel
theorem dd_Mo_ridesKept_1 : decode prog_13_method_115_code 1 = .ok (.invokestatic 22, 3) := by decide +kernel
theorem dd_Mo_ridesKept_4 : decode prog_13_method_115_code 4 = .ok (.ifCond .ne 5, 3) := by decide +kernel
theorem dd_Mo_ridesKept_7 : decode prog_13_method_115_code 7 = .ok (.iconst (-1), 1) := by decide +kernel
theorem dd_Mo_ridesKept_8 : decode prog_13_method_115_code 8 = .ok (.ireturn, 1) := by decide +kernel
theorem dd_Mo_ridesKept_9 : decode prog_13_method_115_code 9 = .ok (.aload_n 0, 1) := by decide +kernel
theorem dd_Mo_ridesKept_10 : decode prog_13_method_115_code 10 = .ok (.iload_n 1, 1) := by decide +kernel
theorem dd_Mo_ridesKept_11 : decode prog_13_method_115_code 11 = .ok (.invokevirtual 132, 3) := by decide +kernel
theorem dd_Mo_ridesKept_14 : decode prog_13_method_115_code 14 = .ok (.ifCond .ne 6, 3) := by decide +kernel
theorem dd_Mo_ridesKept_17 : decode prog_13_method_115_code 17 = .ok (.bipush (-2), 2) := by decide +kernel
theorem dd_Mo_ridesKept_19 : decode prog_13_method_115_code 19 = .ok (.ireturn, 1) := by decide +kernel
theorem dd_Mo_ridesKept_20 : decode prog_13_method_115_code 20 = .ok (.aload_n 0, 1) := by decide +kernel
theorem dd_Mo_ridesKept_21 : decode prog_13_method_115_code 21 = .ok (.iload_n 1, 1) := by decide +kernel
theorem dd_Mo_ridesKept_22 : decode prog_13_method_115_code 22 = .ok (.iload_n 2, 1) := by decide +kernel
theorem dd_Mo_ridesKept_23 : decode prog_13_method_115_code 23 = .ok (.invokevirtual 422, 3) := by decide +kernel
theorem dd_Mo_ridesKept_26 : decode prog_13_method_115_code 26 = .ok (.ifCond .ne 6, 3) := by decide +kernel
theorem dd_Mo_ridesKept_29 : decode prog_13_method_115_code 29 = .ok (.bipush (-3), 2) := by decide +kernel
theorem dd_Mo_ridesKept_31 : decode prog_13_method_115_code 31 = .ok (.ireturn, 1) := by decide +kernel
theorem dd_Mo_ridesKept_32 : decode prog_13_method_115_code 32 = .ok (.aload_n 0, 1) := by decide +kernel
theorem dd_Mo_ridesKept_33 : decode prog_13_method_115_code 33 = .ok (.iconst 1, 1) := by decide +kernel
theorem dd_Mo_ridesKept_34 : decode prog_13_method_115_code 34 = .ok (.invokevirtual 416, 3) := by decide +kernel
theorem dd_Mo_ridesKept_37 : decode prog_13_method_115_code 37 = .ok (.aload_n 0, 1) := by decide +kernel
theorem dd_Mo_ridesKept_38 : decode prog_13_method_115_code 38 = .ok (.iload_n 1, 1) := by decide +kernel
theorem dd_Mo_ridesKept_39 : decode prog_13_method_115_code 39 = .ok (.invokevirtual 425, 3) := by decide +kernel
theorem dd_Mo_ridesKept_42 : decode prog_13_method_115_code 42 = .ok (.ireturn, 1) := by decide +kernel
def jx_Mo_ridesKept (p0 : Option Nat) (p1 : Int32) (p2 : Int32) : sf_M (Int32) :=
  sf_bnd (jx_Mo_isStation p2) fun x1 =>
  if x1 = 0 then (
  sf_ret (-1 : Int32)
  ) else (
  sf_bnd (sf_rc 11 p0 (jx_Mo_isTrain p0 p1)) fun x3 =>
  if x3 = 0 then (
  sf_ret (-2 : Int32)
  ) else (
  sf_bnd (sf_rc 11 p0 (jx_Mo_canRide p0 p1 p2)) fun x5 =>
  if x5 = 0 then (
  sf_ret (-3 : Int32)
  ) else (
  sf_bnd (sf_rc 11 p0 (jx_Mo_keeps p0 (1 : Int32))) fun _ =>
  sf_bnd (sf_rc 11 p0 (jx_Mo_rides p0 p1)) fun x8 =>
  sf_ret x8
  )
  )
  )
set_option maxRecDepth 20000 in
set_option maxHeartbeats 4000000 in
theorem ok_Mo_ridesKept (p0 : Option Nat) (p1 : Int32) (p2 : Int32) : sf_Ok ({ cls := "SplitFaresModel", name := "ridesKept", desc := "(II)I" } : Jvm.MethodName) prog_13_method_115_code 3 (some .int) 211 [sf_rv p0, .int p1, .int p2] (jx_Mo_ridesKept p0 p1 p2) (fun r => some (.int r)) := by
  refine sf_Ok.of (env := [some (sf_rv p0), some (.int p1), some (.int p2)]) (plainFor_of_name (by decide)) [false, false, false] (fun G => ⟨pk_r, pk_i, pk_i, trivial⟩) (Nat.le_of_ble_eq_true rfl) rfl (fun X => ?_)
  unfold jx_Mo_ridesKept
  refine fp_iload_n (i := 2) (x := p2) dd_Mo_ridesKept_0 rfl rfl (fr_pc (pc' := 1) rfl ?_)
  refine fr_callS (stk := []) (ok_Mo_isStation p2) mt_Mo_isStation rfl rfl sw_1285 sw_1286 (by decide) (Nat.le_of_ble_eq_true rfl) dd_Mo_ridesKept_1 (fun x1 => fr_to (pc' := 4) (env' := [some (sf_rv p0), some (.int p1), some (.int p2)]) (stk' := [.int x1]) rfl rfl rfl ?_)
  refine fr_if_ne (tgt := 9) dd_Mo_ridesKept_4 rfl (fun _ => ?_) (fun _ => ?_)
  · refine fr_pc (pc' := 7) rfl ?_
    refine fp_iconst (v := (-1 : Int32)) dd_Mo_ridesKept_7 (by decide) (fr_pc (pc' := 8) rfl ?_)
    exact fr_iret (v := (-1 : Int32)) rfl rfl dd_Mo_ridesKept_8
  · refine fp_aload_n (i := 0) (r := p0) dd_Mo_ridesKept_9 rfl rfl (fr_pc (pc' := 10) rfl ?_)
    refine fp_iload_n (i := 1) (x := p1) dd_Mo_ridesKept_10 rfl rfl (fr_pc (pc' := 11) rfl ?_)
    refine fr_callV (stk := []) (As := [.int p1]) cl_11 (ok_Mo_isTrain p0 p1) mt_Mo_isTrain rfl rfl sw_1274 sw_1276 sp_31 (by decide) (Nat.le_of_ble_eq_true rfl) dd_Mo_ridesKept_11 (fun x3 => fr_to (pc' := 14) (env' := [some (sf_rv p0), some (.int p1), some (.int p2)]) (stk' := [.int x3]) rfl rfl rfl ?_)
    refine fr_if_ne (tgt := 20) dd_Mo_ridesKept_14 rfl (fun _ => ?_) (fun _ => ?_)
    · refine fr_pc (pc' := 17) rfl ?_
      refine fp_bipush (v := (-2 : Int32)) dd_Mo_ridesKept_17 (by decide) (fr_pc (pc' := 19) rfl ?_)
      exact fr_iret (v := (-2 : Int32)) rfl rfl dd_Mo_ridesKept_19
    · refine fp_aload_n (i := 0) (r := p0) dd_Mo_ridesKept_20 rfl rfl (fr_pc (pc' := 21) rfl ?_)
      refine fp_iload_n (i := 1) (x := p1) dd_Mo_ridesKept_21 rfl rfl (fr_pc (pc' := 22) rfl ?_)
      refine fp_iload_n (i := 2) (x := p2) dd_Mo_ridesKept_22 rfl rfl (fr_pc (pc' := 23) rfl ?_)
      refine fr_callV (stk := []) (As := [.int p1, .int p2]) cl_11 (ok_Mo_canRide p0 p1 p2) mt_Mo_canRide rfl rfl sw_1648 sw_1650 sp_89 (by decide) (Nat.le_of_ble_eq_true rfl) dd_Mo_ridesKept_23 (fun x5 => fr_to (pc' := 26) (env' := [some (sf_rv p0), some (.int p1), some (.int p2)]) (stk' := [.int x5]) rfl rfl rfl ?_)
      refine fr_if_ne (tgt := 32) dd_Mo_ridesKept_26 rfl (fun _ => ?_) (fun _ => ?_)
      · refine fr_pc (pc' := 29) rfl ?_
        refine fp_bipush (v := (-3 : Int32)) dd_Mo_ridesKept_29 (by decide) (fr_pc (pc' := 31) rfl ?_)
        exact fr_iret (v := (-3 : Int32)) rfl rfl dd_Mo_ridesKept_31
      · refine fp_aload_n (i := 0) (r := p0) dd_Mo_ridesKept_32 rfl rfl (fr_pc (pc' := 33) rfl ?_)
        refine fp_iconst (v := (1 : Int32)) dd_Mo_ridesKept_33 (by decide) (fr_pc (pc' := 34) rfl ?_)
        refine fr_callV (stk := []) (As := [.int (1 : Int32)]) cl_11 (ok_Mo_keeps p0 (1 : Int32)) mt_Mo_keeps rfl rfl sw_1628 sw_1630 sp_85 (by decide) (Nat.le_of_ble_eq_true rfl) dd_Mo_ridesKept_34 (fun u7 => fr_to (pc' := 37) (env' := [some (sf_rv p0), some (.int p1), some (.int p2)]) (stk' := []) rfl rfl rfl ?_)
        refine fp_aload_n (i := 0) (r := p0) dd_Mo_ridesKept_37 rfl rfl (fr_pc (pc' := 38) rfl ?_)
        refine fp_iload_n (i := 1) (x := p1) dd_Mo_ridesKept_38 rfl rfl (fr_pc (pc' := 39) rfl ?_)
        refine fr_callV (stk := []) (As := [.int p1]) cl_11 (ok_Mo_rides p0 p1) mt_Mo_rides rfl rfl sw_1664 sw_1666 sp_93 (by decide) (Nat.le_of_ble_eq_true rfl) dd_Mo_ridesKept_39 (fun x8 => fr_to (pc' := 42) (env' := [some (sf_rv p0), some (.int p1), some (.int p2)]) (stk' := [.int x8]) rfl rfl rfl ?_)
        exact fr_iret (v := x8) rfl rfl dd_Mo_ridesKept_42
theorem mt_Mo_savesKept : sf_Mt ({ cls := "SplitFaresModel", name := "savesKept", desc := "(I)I" } : Jvm.MethodName) prog_13_method_116_code 2 (some .int) 1 := ⟨sw_1679, sw_12, ⟨by decide, by decide, by decide +kernel⟩, by decide⟩
theorem dd_Mo_savesKept_0 : decode prog_13_method_116_code 0 = .ok (.iload_n 1, 1) := by decide +kernel
theorem dd_Mo_savesKept_1 : decode prog_13_method_116_code 1 = .ok (.iconst 1, 1) := by decide +kernel
theorem dd_Mo_savesKept_2 : decode prog_13_method_116_code 2 = .ok (.sipush 9999, 3) := by decide +kernel
theorem dd_Mo_savesKept_5 : decode prog_13_method_116_code 5 = .ok (.invokestatic 18, 3) := by decide +kernel
theorem dd_Mo_savesKept_8 : decode prog_13_method_116_code 8 = .ok (.ifCond .ne 5, 3) := by decide +kernel
theorem dd_Mo_savesKept_11 : decode prog_13_method_116_code 11 = .ok (.iconst (-1), 1) := by decide +kernel
theorem dd_Mo_savesKept_12 : decode prog_13_method_116_code 12 = .ok (.ireturn, 1) := by decide +kernel
theorem dd_Mo_savesKept_13 : decode prog_13_method_116_code 13 = .ok (.aload_n 0, 1) := by decide +kernel
theorem dd_Mo_savesKept_14 : decode prog_13_method_116_code 14 = .ok (.iconst 2, 1) := by decide +kernel
theorem dd_Mo_savesKept_15 : decode prog_13_method_116_code 15 = .ok (.invokevirtual 416, 3) := by decide +kernel
theorem dd_Mo_savesKept_18 : decode prog_13_method_116_code 18 = .ok (.aload_n 0, 1) := by decide +kernel
theorem dd_Mo_savesKept_19 : decode prog_13_method_116_code 19 = .ok (.getfield 32, 3) := by decide +kernel
theorem dd_Mo_savesKept_22 : decode prog_13_method_116_code 22 = .ok (.sipush 193, 3) := by decide +kernel
theorem dd_Mo_savesKept_25 : decode prog_13_method_116_code 25 = .ok (.ldc_w 428, 3) := by decide +kernel
theorem dd_Mo_savesKept_28 : decode prog_13_method_116_code 28 = .ok (.aload_n 0, 1) := by decide +kernel
theorem dd_Mo_savesKept_29 : decode prog_13_method_116_code 29 = .ok (.getfield 32, 3) := by decide +kernel
theorem dd_Mo_savesKept_32 : decode prog_13_method_116_code 32 = .ok (.sipush 193, 3) := by decide +kernel
theorem dd_Mo_savesKept_35 : decode prog_13_method_116_code 35 = .ok (.iaload, 1) := by decide +kernel
theorem dd_Mo_savesKept_36 : decode prog_13_method_116_code 36 = .ok (.iload_n 1, 1) := by decide +kernel
theorem dd_Mo_savesKept_37 : decode prog_13_method_116_code 37 = .ok (.iadd, 1) := by decide +kernel
theorem dd_Mo_savesKept_38 : decode prog_13_method_116_code 38 = .ok (.invokestatic 355, 3) := by decide +kernel
theorem dd_Mo_savesKept_41 : decode prog_13_method_116_code 41 = .ok (.iastore, 1) := by decide +kernel
theorem dd_Mo_savesKept_42 : decode prog_13_method_116_code 42 = .ok (.aload_n 0, 1) := by decide +kernel
theorem dd_Mo_savesKept_43 : decode prog_13_method_116_code 43 = .ok (.getfield 32, 3) := by decide +kernel
theorem dd_Mo_savesKept_46 : decode prog_13_method_116_code 46 = .ok (.sipush 193, 3) := by decide +kernel
theorem dd_Mo_savesKept_49 : decode prog_13_method_116_code 49 = .ok (.iaload, 1) := by decide +kernel
theorem dd_Mo_savesKept_50 : decode prog_13_method_116_code 50 = .ok (.ireturn, 1) := by decide +kernel
def jx_Mo_savesKept (p0 : Option Nat) (p1 : Int32) : sf_M (Int32) :=
  sf_bnd (jx_Mo_lies p1 (1 : Int32) (9999 : Int32)) fun x1 =>
  if x1 = 0 then (
  sf_ret (-1 : Int32)
  ) else (
  sf_bnd (sf_rc 11 p0 (jx_Mo_keeps p0 (2 : Int32))) fun _ =>
  sf_bnd (sf_gR 11 2 p0) fun x4 =>
  sf_bnd (sf_gR 11 2 p0) fun x5 =>
  sf_bnd (sf_aI 0 x5 (193 : Int32)) fun x6 =>
  sf_bnd (jx_Mo_lesser (99999 : Int32) (x6 + p1)) fun x7 =>
  sf_bnd (sf_sI 0 x4 (193 : Int32) x7) fun _ =>
  sf_bnd (sf_gR 11 2 p0) fun x8 =>
  sf_bnd (sf_aI 0 x8 (193 : Int32)) fun x9 =>
  sf_ret x9
  )
set_option maxRecDepth 20000 in
set_option maxHeartbeats 4000000 in
theorem ok_Mo_savesKept (p0 : Option Nat) (p1 : Int32) : sf_Ok ({ cls := "SplitFaresModel", name := "savesKept", desc := "(I)I" } : Jvm.MethodName) prog_13_method_116_code 2 (some .int) 1 [sf_rv p0, .int p1] (jx_Mo_savesKept p0 p1) (fun r => some (.int r)) := by
  refine sf_Ok.of (env := [some (sf_rv p0), some (.int p1)]) (plainFor_of_name (by decide)) [false, false] (fun G => ⟨pk_r, pk_i, trivial⟩) (Nat.le_of_ble_eq_true rfl) rfl (fun X => ?_)
  unfold jx_Mo_savesKept
  refine fp_iload_n (i := 1) (x := p1) dd_Mo_savesKept_0 rfl rfl (fr_pc (pc' := 1) rfl ?_)
  refine fp_iconst (v := (1 : Int32)) dd_Mo_savesKept_1 (by decide) (fr_pc (pc' := 2) rfl ?_)
  refine fp_sipush (v := (9999 : Int32)) dd_Mo_savesKept_2 (by decide) (fr_pc (pc' := 5) rfl ?_)
  refine fr_callS (stk := []) (ok_Mo_lies p1 (1 : Int32) (9999 : Int32)) mt_Mo_lies rfl rfl sw_1237 sw_1238 (by decide) (Nat.le_of_ble_eq_true rfl) dd_Mo_savesKept_5 (fun x1 => fr_to (pc' := 8) (env' := [some (sf_rv p0), some (.int p1)]) (stk' := [.int x1]) rfl rfl rfl ?_)
  refine fr_if_ne (tgt := 13) dd_Mo_savesKept_8 rfl (fun _ => ?_) (fun _ => ?_)
  · refine fr_pc (pc' := 11) rfl ?_
    refine fp_iconst (v := (-1 : Int32)) dd_Mo_savesKept_11 (by decide) (fr_pc (pc' := 12) rfl ?_)
    exact fr_iret (v := (-1 : Int32)) rfl rfl dd_Mo_savesKept_12
  · refine fp_aload_n (i := 0) (r := p0) dd_Mo_savesKept_13 rfl rfl (fr_pc (pc' := 14) rfl ?_)
    refine fp_iconst (v := (2 : Int32)) dd_Mo_savesKept_14 (by decide) (fr_pc (pc' := 15) rfl ?_)
    refine fr_callV (stk := []) (As := [.int (2 : Int32)]) cl_11 (ok_Mo_keeps p0 (2 : Int32)) mt_Mo_keeps rfl rfl sw_1628 sw_1630 sp_85 (by decide) (Nat.le_of_ble_eq_true rfl) dd_Mo_savesKept_15 (fun u3 => fr_to (pc' := 18) (env' := [some (sf_rv p0), some (.int p1)]) (stk' := []) rfl rfl rfl ?_)
    refine fp_aload_n (i := 0) (r := p0) dd_Mo_savesKept_18 rfl rfl (fr_pc (pc' := 19) rfl ?_)
    refine fr_gR cl_11 2 (by decide) rfl sw_1074 dd_Mo_savesKept_19 (fun x4 => fr_pc (pc' := 22) rfl ?_)
    refine fp_sipush (v := (193 : Int32)) dd_Mo_savesKept_22 (by decide) (fr_pc (pc' := 25) rfl ?_)
    refine fp_ldcw (v := (99999 : Int32)) dd_Mo_savesKept_25 sw_1680 (fr_pc (pc' := 28) rfl ?_)
    refine fp_aload_n (i := 0) (r := p0) dd_Mo_savesKept_28 rfl rfl (fr_pc (pc' := 29) rfl ?_)
    refine fr_gR cl_11 2 (by decide) rfl sw_1074 dd_Mo_savesKept_29 (fun x5 => fr_pc (pc' := 32) rfl ?_)
    refine fp_sipush (v := (193 : Int32)) dd_Mo_savesKept_32 (by decide) (fr_pc (pc' := 35) rfl ?_)
    refine fr_aI0 dd_Mo_savesKept_35 (fun x6 => fr_pc (pc' := 36) rfl ?_)
    refine fp_iload_n (i := 1) (x := p1) dd_Mo_savesKept_36 rfl rfl (fr_pc (pc' := 37) rfl ?_)
    refine fp_iadd dd_Mo_savesKept_37 (fr_pc (pc' := 38) rfl ?_)
    refine fr_callS (stk := [.int (193 : Int32), sf_rv x4]) (ok_Mo_lesser (99999 : Int32) (x6 + p1)) mt_Mo_lesser rfl rfl sw_1540 sw_1541 (by decide) (Nat.le_of_ble_eq_true rfl) dd_Mo_savesKept_38 (fun x7 => fr_to (pc' := 41) (env' := [some (sf_rv p0), some (.int p1)]) (stk' := [.int x7, .int (193 : Int32), sf_rv x4]) rfl rfl rfl ?_)
    refine fr_sI0 dd_Mo_savesKept_41 (fr_pc (pc' := 42) rfl ?_)
    refine fp_aload_n (i := 0) (r := p0) dd_Mo_savesKept_42 rfl rfl (fr_pc (pc' := 43) rfl ?_)
    refine fr_gR cl_11 2 (by decide) rfl sw_1074 dd_Mo_savesKept_43 (fun x8 => fr_pc (pc' := 46) rfl ?_)
    refine fp_sipush (v := (193 : Int32)) dd_Mo_savesKept_46 (by decide) (fr_pc (pc' := 49) rfl ?_)
    refine fr_aI0 dd_Mo_savesKept_49 (fun x9 => fr_pc (pc' := 50) rfl ?_)
    exact fr_iret (v := x9) rfl rfl dd_Mo_savesKept_50
theorem mt_Mo_passesKept : sf_Mt ({ cls := "SplitFaresModel", name := "passesKept", desc := "()I" } : Jvm.MethodName) prog_13_method_117_code 1 (some .int) 0 := ⟨sw_1688, sw_12, ⟨by decide, by decide, by decide +kernel⟩, by decide⟩
theorem dd_Mo_passesKept_0 : decode prog_13_method_117_code 0 = .ok (.aload_n 0, 1) := by decide +kernel
theorem dd_Mo_passesKept_1 : decode prog_13_method_117_code 1 = .ok (.getfield 32, 3) := by decide +kernel
theorem dd_Mo_passesKept_4 : decode prog_13_method_117_code 4 = .ok (.sipush 194, 3) := by decide +kernel
theorem dd_Mo_passesKept_7 : decode prog_13_method_117_code 7 = .ok (.iaload, 1) := by decide +kernel
theorem dd_Mo_passesKept_8 : decode prog_13_method_117_code 8 = .ok (.sipush 999, 3) := by decide +kernel
theorem dd_Mo_passesKept_11 : decode prog_13_method_117_code 11 = .ok (.if_icmp .ne 6, 3) := by decide +kernel
theorem dd_Mo_passesKept_14 : decode prog_13_method_117_code 14 = .ok (.bipush (-3), 2) := by decide +kernel
theorem dd_Mo_passesKept_16 : decode prog_13_method_117_code 16 = .ok (.ireturn, 1) := by decide +kernel
theorem dd_Mo_passesKept_17 : decode prog_13_method_117_code 17 = .ok (.aload_n 0, 1) := by decide +kernel
theorem dd_Mo_passesKept_18 : decode prog_13_method_117_code 18 = .ok (.iconst 3, 1) := by decide +kernel
theorem dd_Mo_passesKept_19 : decode prog_13_method_117_code 19 = .ok (.invokevirtual 416, 3) := by decide +kernel
theorem dd_Mo_passesKept_22 : decode prog_13_method_117_code 22 = .ok (.aload_n 0, 1) := by decide +kernel
theorem dd_Mo_passesKept_23 : decode prog_13_method_117_code 23 = .ok (.invokevirtual 429, 3) := by decide +kernel
theorem dd_Mo_passesKept_26 : decode prog_13_method_117_code 26 = .ok (.ireturn, 1) := by decide +kernel
def jx_Mo_passesKept (p0 : Option Nat) : sf_M (Int32) :=
  sf_bnd (sf_gR 11 2 p0) fun x1 =>
  sf_bnd (sf_aI 0 x1 (194 : Int32)) fun x2 =>
  if x2 = (999 : Int32) then (
  sf_ret (-3 : Int32)
  ) else (
  sf_bnd (sf_rc 11 p0 (jx_Mo_keeps p0 (3 : Int32))) fun _ =>
  sf_bnd (sf_rc 11 p0 (jx_Mo_dayPasses p0)) fun x5 =>
  sf_ret x5
  )
set_option maxRecDepth 20000 in
set_option maxHeartbeats 4000000 in
theorem ok_Mo_passesKept (p0 : Option Nat) : sf_Ok ({ cls := "SplitFaresModel", name := "passesKept", desc := "()I" } : Jvm.MethodName) prog_13_method_117_code 1 (some .int) 2 [sf_rv p0] (jx_Mo_passesKept p0) (fun r => some (.int r)) := by
  refine sf_Ok.of (env := [some (sf_rv p0)]) (plainFor_of_name (by decide)) [false] (fun G => ⟨pk_r, trivial⟩) (Nat.le_of_ble_eq_true rfl) rfl (fun X => ?_)
  unfold jx_Mo_passesKept
  refine fp_aload_n (i := 0) (r := p0) dd_Mo_passesKept_0 rfl rfl (fr_pc (pc' := 1) rfl ?_)
  refine fr_gR cl_11 2 (by decide) rfl sw_1074 dd_Mo_passesKept_1 (fun x1 => fr_pc (pc' := 4) rfl ?_)
  refine fp_sipush (v := (194 : Int32)) dd_Mo_passesKept_4 (by decide) (fr_pc (pc' := 7) rfl ?_)
  refine fr_aI0 dd_Mo_passesKept_7 (fun x2 => fr_pc (pc' := 8) rfl ?_)
  refine fp_sipush (v := (999 : Int32)) dd_Mo_passesKept_8 (by decide) (fr_pc (pc' := 11) rfl ?_)
  refine fr_icmp_ne (tgt := 17) dd_Mo_passesKept_11 rfl (fun _ => ?_) (fun _ => ?_)
  · refine fr_pc (pc' := 14) rfl ?_
    refine fp_bipush (v := (-3 : Int32)) dd_Mo_passesKept_14 (by decide) (fr_pc (pc' := 16) rfl ?_)
    exact fr_iret (v := (-3 : Int32)) rfl rfl dd_Mo_passesKept_16
  · refine fp_aload_n (i := 0) (r := p0) dd_Mo_passesKept_17 rfl rfl (fr_pc (pc' := 18) rfl ?_)
    refine fp_iconst (v := (3 : Int32)) dd_Mo_passesKept_18 (by decide) (fr_pc (pc' := 19) rfl ?_)
    refine fr_callV (stk := []) (As := [.int (3 : Int32)]) cl_11 (ok_Mo_keeps p0 (3 : Int32)) mt_Mo_keeps rfl rfl sw_1628 sw_1630 sp_85 (by decide) (Nat.le_of_ble_eq_true rfl) dd_Mo_passesKept_19 (fun u4 => fr_to (pc' := 22) (env' := [some (sf_rv p0)]) (stk' := []) rfl rfl rfl ?_)
    refine fp_aload_n (i := 0) (r := p0) dd_Mo_passesKept_22 rfl rfl (fr_pc (pc' := 23) rfl ?_)
    refine fr_callV (stk := []) (As := []) cl_11 (ok_Mo_dayPasses p0) mt_Mo_dayPasses rfl rfl sw_1689 sw_1691 sp_97 (by decide) (Nat.le_of_ble_eq_true rfl) dd_Mo_passesKept_23 (fun x5 => fr_to (pc' := 26) (env' := [some (sf_rv p0)]) (stk' := [.int x5]) rfl rfl rfl ?_)
    exact fr_iret (v := x5) rfl rfl dd_Mo_passesKept_26
theorem mt_Mo_buy : sf_Mt ({ cls := "SplitFaresModel", name := "buy", desc := "(III)I" } : Jvm.MethodName) prog_13_method_118_code 4 (some .int) 3 := ⟨sw_1619, sw_12, ⟨by decide, by decide, by decide +kernel⟩, by decide⟩
theorem dd_Mo_buy_0 : decode prog_13_method_118_code 0 = .ok (.aload_n 0, 1) := by decide +kernel
theorem dd_Mo_buy_1 : decode prog_13_method_118_code 1 = .ok (.aload_n 0, 1) := by decide +kernel
theorem dd_Mo_buy_2 : decode prog_13_method_118_code 2 = .ok (.iload_n 1, 1) := by decide +kernel
theorem dd_Mo_buy_3 : decode prog_13_method_118_code 3 = .ok (.iload_n 2, 1) := by decide +kernel
theorem dd_Mo_buy_4 : decode prog_13_method_118_code 4 = .ok (.iload_n 3, 1) := by decide +kernel
theorem dd_Mo_buy_5 : decode prog_13_method_118_code 5 = .ok (.invokevirtual 432, 3) := by decide +kernel
theorem dd_Mo_buy_8 : decode prog_13_method_118_code 8 = .ok (.invokevirtual 435, 3) := by decide +kernel
theorem dd_Mo_buy_11 : decode prog_13_method_118_code 11 = .ok (.ireturn, 1) := by decide +kernel
def jx_Mo_buy (p0 : Option Nat) (p1 : Int32) (p2 : Int32) (p3 : Int32) : sf_M (Int32) :=
  sf_bnd (sf_rc 11 p0 (jx_Mo_buysKept p0 p1 p2 p3)) fun x1 =>
  sf_bnd (sf_rc 11 p0 (jx_Mo_goodOr p0 x1)) fun x2 =>
  sf_ret x2
set_option maxRecDepth 20000 in
set_option maxHeartbeats 4000000 in
theorem ok_Mo_buy (p0 : Option Nat) (p1 : Int32) (p2 : Int32) (p3 : Int32) : sf_Ok ({ cls := "SplitFaresModel", name := "buy", desc := "(III)I" } : Jvm.MethodName) prog_13_method_118_code 4 (some .int) 209 [sf_rv p0, .int p1, .int p2, .int p3] (jx_Mo_buy p0 p1 p2 p3) (fun r => some (.int r)) := by
  refine sf_Ok.of (env := [some (sf_rv p0), some (.int p1), some (.int p2), some (.int p3)]) (plainFor_of_name (by decide)) [false, false, false, false] (fun G => ⟨pk_r, pk_i, pk_i, pk_i, trivial⟩) (Nat.le_of_ble_eq_true rfl) rfl (fun X => ?_)
  unfold jx_Mo_buy
  refine fp_aload_n (i := 0) (r := p0) dd_Mo_buy_0 rfl rfl (fr_pc (pc' := 1) rfl ?_)
  refine fp_aload_n (i := 0) (r := p0) dd_Mo_buy_1 rfl rfl (fr_pc (pc' := 2) rfl ?_)
  refine fp_iload_n (i := 1) (x := p1) dd_Mo_buy_2 rfl rfl (fr_pc (pc' := 3) rfl ?_)
  refine fp_iload_n (i := 2) (x := p2) dd_Mo_buy_3 rfl rfl (fr_pc (pc' := 4) rfl ?_)
  refine fp_iload_n (i := 3) (x := p3) dd_Mo_buy_4 rfl rfl (fr_pc (pc' := 5) rfl ?_)
  refine fr_callV (stk := [sf_rv p0]) (As := [.int p1, .int p2, .int p3]) cl_11 (ok_Mo_buysKept p0 p1 p2 p3) mt_Mo_buysKept rfl rfl sw_1620 sw_1622 sp_83 (by decide) (Nat.le_of_ble_eq_true rfl) dd_Mo_buy_5 (fun x1 => fr_to (pc' := 8) (env' := [some (sf_rv p0), some (.int p1), some (.int p2), some (.int p3)]) (stk' := [.int x1, sf_rv p0]) rfl rfl rfl ?_)
  refine fr_callV (stk := []) (As := [.int x1]) cl_11 (ok_Mo_goodOr p0 x1) mt_Mo_goodOr rfl rfl sw_1636 sw_1638 sp_87 (by decide) (Nat.le_of_ble_eq_true rfl) dd_Mo_buy_8 (fun x2 => fr_to (pc' := 11) (env' := [some (sf_rv p0), some (.int p1), some (.int p2), some (.int p3)]) (stk' := [.int x2]) rfl rfl rfl ?_)
  exact fr_iret (v := x2) rfl rfl dd_Mo_buy_11
theorem mt_Mo_ride : sf_Mt ({ cls := "SplitFaresModel", name := "ride", desc := "(II)I" } : Jvm.MethodName) prog_13_method_119_code 3 (some .int) 2 := ⟨sw_1643, sw_12, ⟨by decide, by decide, by decide +kernel⟩, by decide⟩
theorem dd_Mo_ride_0 : decode prog_13_method_119_code 0 = .ok (.aload_n 0, 1) := by decide +kernel
theorem dd_Mo_ride_1 : decode prog_13_method_119_code 1 = .ok (.aload_n 0, 1) := by decide +kernel
theorem dd_Mo_ride_2 : decode prog_13_method_119_code 2 = .ok (.iload_n 1, 1) := by decide +kernel
theorem dd_Mo_ride_3 : decode prog_13_method_119_code 3 = .ok (.iload_n 2, 1) := by decide +kernel
theorem dd_Mo_ride_4 : decode prog_13_method_119_code 4 = .ok (.invokevirtual 438, 3) := by decide +kernel
theorem dd_Mo_ride_7 : decode prog_13_method_119_code 7 = .ok (.invokevirtual 435, 3) := by decide +kernel
theorem dd_Mo_ride_10 : decode prog_13_method_119_code 10 = .ok (.ireturn, 1) := by decide +kernel
def jx_Mo_ride (p0 : Option Nat) (p1 : Int32) (p2 : Int32) : sf_M (Int32) :=
  sf_bnd (sf_rc 11 p0 (jx_Mo_ridesKept p0 p1 p2)) fun x1 =>
  sf_bnd (sf_rc 11 p0 (jx_Mo_goodOr p0 x1)) fun x2 =>
  sf_ret x2
set_option maxRecDepth 20000 in
set_option maxHeartbeats 4000000 in
theorem ok_Mo_ride (p0 : Option Nat) (p1 : Int32) (p2 : Int32) : sf_Ok ({ cls := "SplitFaresModel", name := "ride", desc := "(II)I" } : Jvm.MethodName) prog_13_method_119_code 3 (some .int) 212 [sf_rv p0, .int p1, .int p2] (jx_Mo_ride p0 p1 p2) (fun r => some (.int r)) := by
  refine sf_Ok.of (env := [some (sf_rv p0), some (.int p1), some (.int p2)]) (plainFor_of_name (by decide)) [false, false, false] (fun G => ⟨pk_r, pk_i, pk_i, trivial⟩) (Nat.le_of_ble_eq_true rfl) rfl (fun X => ?_)
  unfold jx_Mo_ride
  refine fp_aload_n (i := 0) (r := p0) dd_Mo_ride_0 rfl rfl (fr_pc (pc' := 1) rfl ?_)
  refine fp_aload_n (i := 0) (r := p0) dd_Mo_ride_1 rfl rfl (fr_pc (pc' := 2) rfl ?_)
  refine fp_iload_n (i := 1) (x := p1) dd_Mo_ride_2 rfl rfl (fr_pc (pc' := 3) rfl ?_)
  refine fp_iload_n (i := 2) (x := p2) dd_Mo_ride_3 rfl rfl (fr_pc (pc' := 4) rfl ?_)
  refine fr_callV (stk := [sf_rv p0]) (As := [.int p1, .int p2]) cl_11 (ok_Mo_ridesKept p0 p1 p2) mt_Mo_ridesKept rfl rfl sw_1644 sw_1646 sp_88 (by decide) (Nat.le_of_ble_eq_true rfl) dd_Mo_ride_4 (fun x1 => fr_to (pc' := 7) (env' := [some (sf_rv p0), some (.int p1), some (.int p2)]) (stk' := [.int x1, sf_rv p0]) rfl rfl rfl ?_)
  refine fr_callV (stk := []) (As := [.int x1]) cl_11 (ok_Mo_goodOr p0 x1) mt_Mo_goodOr rfl rfl sw_1636 sw_1638 sp_87 (by decide) (Nat.le_of_ble_eq_true rfl) dd_Mo_ride_7 (fun x2 => fr_to (pc' := 10) (env' := [some (sf_rv p0), some (.int p1), some (.int p2)]) (stk' := [.int x2]) rfl rfl rfl ?_)
  exact fr_iret (v := x2) rfl rfl dd_Mo_ride_10
theorem mt_Mo_save : sf_Mt ({ cls := "SplitFaresModel", name := "save", desc := "(I)I" } : Jvm.MethodName) prog_13_method_120_code 2 (some .int) 1 := ⟨sw_1675, sw_12, ⟨by decide, by decide, by decide +kernel⟩, by decide⟩
theorem dd_Mo_save_0 : decode prog_13_method_120_code 0 = .ok (.aload_n 0, 1) := by decide +kernel
theorem dd_Mo_save_1 : decode prog_13_method_120_code 1 = .ok (.aload_n 0, 1) := by decide +kernel
theorem dd_Mo_save_2 : decode prog_13_method_120_code 2 = .ok (.iload_n 1, 1) := by decide +kernel
theorem dd_Mo_save_3 : decode prog_13_method_120_code 3 = .ok (.invokevirtual 441, 3) := by decide +kernel
theorem dd_Mo_save_6 : decode prog_13_method_120_code 6 = .ok (.invokevirtual 435, 3) := by decide +kernel
theorem dd_Mo_save_9 : decode prog_13_method_120_code 9 = .ok (.ireturn, 1) := by decide +kernel
def jx_Mo_save (p0 : Option Nat) (p1 : Int32) : sf_M (Int32) :=
  sf_bnd (sf_rc 11 p0 (jx_Mo_savesKept p0 p1)) fun x1 =>
  sf_bnd (sf_rc 11 p0 (jx_Mo_goodOr p0 x1)) fun x2 =>
  sf_ret x2
set_option maxRecDepth 20000 in
set_option maxHeartbeats 4000000 in
theorem ok_Mo_save (p0 : Option Nat) (p1 : Int32) : sf_Ok ({ cls := "SplitFaresModel", name := "save", desc := "(I)I" } : Jvm.MethodName) prog_13_method_120_code 2 (some .int) 2 [sf_rv p0, .int p1] (jx_Mo_save p0 p1) (fun r => some (.int r)) := by
  refine sf_Ok.of (env := [some (sf_rv p0), some (.int p1)]) (plainFor_of_name (by decide)) [false, false] (fun G => ⟨pk_r, pk_i, trivial⟩) (Nat.le_of_ble_eq_true rfl) rfl (fun X => ?_)
  unfold jx_Mo_save
  refine fp_aload_n (i := 0) (r := p0) dd_Mo_save_0 rfl rfl (fr_pc (pc' := 1) rfl ?_)
  refine fp_aload_n (i := 0) (r := p0) dd_Mo_save_1 rfl rfl (fr_pc (pc' := 2) rfl ?_)
  refine fp_iload_n (i := 1) (x := p1) dd_Mo_save_2 rfl rfl (fr_pc (pc' := 3) rfl ?_)
  refine fr_callV (stk := [sf_rv p0]) (As := [.int p1]) cl_11 (ok_Mo_savesKept p0 p1) mt_Mo_savesKept rfl rfl sw_1676 sw_1678 sp_95 (by decide) (Nat.le_of_ble_eq_true rfl) dd_Mo_save_3 (fun x1 => fr_to (pc' := 6) (env' := [some (sf_rv p0), some (.int p1)]) (stk' := [.int x1, sf_rv p0]) rfl rfl rfl ?_)
  refine fr_callV (stk := []) (As := [.int x1]) cl_11 (ok_Mo_goodOr p0 x1) mt_Mo_goodOr rfl rfl sw_1636 sw_1638 sp_87 (by decide) (Nat.le_of_ble_eq_true rfl) dd_Mo_save_6 (fun x2 => fr_to (pc' := 9) (env' := [some (sf_rv p0), some (.int p1)]) (stk' := [.int x2]) rfl rfl rfl ?_)
  exact fr_iret (v := x2) rfl rfl dd_Mo_save_9
theorem mt_Mo_pass : sf_Mt ({ cls := "SplitFaresModel", name := "pass", desc := "()I" } : Jvm.MethodName) prog_13_method_121_code 1 (some .int) 0 := ⟨sw_1684, sw_12, ⟨by decide, by decide, by decide +kernel⟩, by decide⟩
theorem dd_Mo_pass_0 : decode prog_13_method_121_code 0 = .ok (.aload_n 0, 1) := by decide +kernel
theorem dd_Mo_pass_1 : decode prog_13_method_121_code 1 = .ok (.aload_n 0, 1) := by decide +kernel
theorem dd_Mo_pass_2 : decode prog_13_method_121_code 2 = .ok (.invokevirtual 444, 3) := by decide +kernel
theorem dd_Mo_pass_5 : decode prog_13_method_121_code 5 = .ok (.invokevirtual 435, 3) := by decide +kernel
theorem dd_Mo_pass_8 : decode prog_13_method_121_code 8 = .ok (.ireturn, 1) := by decide +kernel
def jx_Mo_pass (p0 : Option Nat) : sf_M (Int32) :=
  sf_bnd (sf_rc 11 p0 (jx_Mo_passesKept p0)) fun x1 =>
  sf_bnd (sf_rc 11 p0 (jx_Mo_goodOr p0 x1)) fun x2 =>
  sf_ret x2
set_option maxRecDepth 20000 in
set_option maxHeartbeats 4000000 in
theorem ok_Mo_pass (p0 : Option Nat) : sf_Ok ({ cls := "SplitFaresModel", name := "pass", desc := "()I" } : Jvm.MethodName) prog_13_method_121_code 1 (some .int) 3 [sf_rv p0] (jx_Mo_pass p0) (fun r => some (.int r)) := by
  refine sf_Ok.of (env := [some (sf_rv p0)]) (plainFor_of_name (by decide)) [false] (fun G => ⟨pk_r, trivial⟩) (Nat.le_of_ble_eq_true rfl) rfl (fun X => ?_)
  unfold jx_Mo_pass
  refine fp_aload_n (i := 0) (r := p0) dd_Mo_pass_0 rfl rfl (fr_pc (pc' := 1) rfl ?_)
  refine fp_aload_n (i := 0) (r := p0) dd_Mo_pass_1 rfl rfl (fr_pc (pc' := 2) rfl ?_)
  refine fr_callV (stk := [sf_rv p0]) (As := []) cl_11 (ok_Mo_passesKept p0) mt_Mo_passesKept rfl rfl sw_1685 sw_1687 sp_96 (by decide) (Nat.le_of_ble_eq_true rfl) dd_Mo_pass_2 (fun x1 => fr_to (pc' := 5) (env' := [some (sf_rv p0)]) (stk' := [.int x1, sf_rv p0]) rfl rfl rfl ?_)
  refine fr_callV (stk := []) (As := [.int x1]) cl_11 (ok_Mo_goodOr p0 x1) mt_Mo_goodOr rfl rfl sw_1636 sw_1638 sp_87 (by decide) (Nat.le_of_ble_eq_true rfl) dd_Mo_pass_5 (fun x2 => fr_to (pc' := 8) (env' := [some (sf_rv p0)]) (stk' := [.int x2]) rfl rfl rfl ?_)
  exact fr_iret (v := x2) rfl rfl dd_Mo_pass_8
theorem mt_Mo_used : sf_Mt ({ cls := "SplitFaresModel", name := "used", desc := "(III)I" } : Jvm.MethodName) prog_13_method_122_code 4 (some .int) 3 := ⟨sw_1696, sw_12, ⟨by decide, by decide, by decide +kernel⟩, by decide⟩
theorem dd_Mo_used_0 : decode prog_13_method_122_code 0 = .ok (.aload_n 0, 1) := by decide +kernel
theorem dd_Mo_used_1 : decode prog_13_method_122_code 1 = .ok (.iload_n 1, 1) := by decide +kernel
theorem dd_Mo_used_2 : decode prog_13_method_122_code 2 = .ok (.invokevirtual 132, 3) := by decide +kernel
theorem dd_Mo_used_5 : decode prog_13_method_122_code 5 = .ok (.ifCond .eq 24, 3) := by decide +kernel
theorem dd_Mo_used_8 : decode prog_13_method_122_code 8 = .ok (.iload_n 2, 1) := by decide +kernel
theorem dd_Mo_used_9 : decode prog_13_method_122_code 9 = .ok (.invokestatic 22, 3) := by decide +kernel
theorem dd_Mo_used_12 : decode prog_13_method_122_code 12 = .ok (.ifCond .eq 17, 3) := by decide +kernel
theorem dd_Mo_used_15 : decode prog_13_method_122_code 15 = .ok (.iload_n 3, 1) := by decide +kernel
theorem dd_Mo_used_16 : decode prog_13_method_122_code 16 = .ok (.iconst (-1), 1) := by decide +kernel
theorem dd_Mo_used_17 : decode prog_13_method_122_code 17 = .ok (.if_icmp .lt 12, 3) := by decide +kernel
theorem dd_Mo_used_20 : decode prog_13_method_122_code 20 = .ok (.aload_n 0, 1) := by decide +kernel
theorem dd_Mo_used_21 : decode prog_13_method_122_code 21 = .ok (.iload_n 1, 1) := by decide +kernel
theorem dd_Mo_used_22 : decode prog_13_method_122_code 22 = .ok (.iload_n 2, 1) := by decide +kernel
theorem dd_Mo_used_23 : decode prog_13_method_122_code 23 = .ok (.invokevirtual 422, 3) := by decide +kernel
theorem dd_Mo_used_26 : decode prog_13_method_122_code 26 = .ok (.ifCond .ne 5, 3) := by decide +kernel
theorem dd_Mo_used_31 : decode prog_13_method_122_code 31 = .ok (.iload_n 3, 1) := by decide +kernel
theorem dd_Mo_used_32 : decode prog_13_method_122_code 32 = .ok (.iconst (-1), 1) := by decide +kernel
theorem dd_Mo_used_33 : decode prog_13_method_122_code 33 = .ok (.if_icmp .ne 12, 3) := by decide +kernel
theorem dd_Mo_used_36 : decode prog_13_method_122_code 36 = .ok (.aload_n 0, 1) := by decide +kernel
theorem dd_Mo_used_37 : decode prog_13_method_122_code 37 = .ok (.getfield 76, 3) := by decide +kernel
theorem dd_Mo_used_40 : decode prog_13_method_122_code 40 = .ok (.iconst 0, 1) := by decide +kernel
theorem dd_Mo_used_41 : decode prog_13_method_122_code 41 = .ok (.iaload, 1) := by decide +kernel
theorem dd_Mo_used_42 : decode prog_13_method_122_code 42 = .ok (.goto 8, 3) := by decide +kernel
theorem dd_Mo_used_45 : decode prog_13_method_122_code 45 = .ok (.aload_n 0, 1) := by decide +kernel
theorem dd_Mo_used_46 : decode prog_13_method_122_code 46 = .ok (.iload_n 3, 1) := by decide +kernel
theorem dd_Mo_used_47 : decode prog_13_method_122_code 47 = .ok (.invokevirtual 382, 3) := by decide +kernel
theorem dd_Mo_used_50 : decode prog_13_method_122_code 50 = .ok (.ireturn, 1) := by decide +kernel
theorem dd_Mo_used_29 : decode prog_13_method_122_code 29 = .ok (.iconst (-1), 1) := by decide +kernel
theorem dd_Mo_used_30 : decode prog_13_method_122_code 30 = .ok (.ireturn, 1) := by decide +kernel
def jx_Mo_used (p0 : Option Nat) (p1 : Int32) (p2 : Int32) (p3 : Int32) : sf_M (Int32) :=
  sf_bnd (sf_rc 11 p0 (jx_Mo_isTrain p0 p1)) fun x1 =>
  if x1 = 0 then (
  sf_ret (-1 : Int32)
  ) else (
  sf_bnd (jx_Mo_isStation p2) fun x3 =>
  if x3 = 0 then (
  sf_ret (-1 : Int32)
  ) else (
  if p3 < (-1 : Int32) then (
  sf_ret (-1 : Int32)
  ) else (
  sf_bnd (sf_rc 11 p0 (jx_Mo_canRide p0 p1 p2)) fun x6 =>
  if x6 = 0 then (
  sf_ret (-1 : Int32)
  ) else (
  if p3 = (-1 : Int32) then (
  sf_bnd (sf_gR 11 32 p0) fun x9 =>
  sf_bnd (sf_aI 0 x9 (0 : Int32)) fun x10 =>
  sf_ret x10
  ) else (
  sf_bnd (sf_rc 11 p0 (jx_Mo_endOf p0 p3)) fun x11 =>
  sf_ret x11
  )
  )
  )
  )
  )
set_option maxRecDepth 20000 in
set_option maxHeartbeats 4000000 in
theorem ok_Mo_used (p0 : Option Nat) (p1 : Int32) (p2 : Int32) (p3 : Int32) : sf_Ok ({ cls := "SplitFaresModel", name := "used", desc := "(III)I" } : Jvm.MethodName) prog_13_method_122_code 4 (some .int) 211 [sf_rv p0, .int p1, .int p2, .int p3] (jx_Mo_used p0 p1 p2 p3) (fun r => some (.int r)) := by
  refine sf_Ok.of (env := [some (sf_rv p0), some (.int p1), some (.int p2), some (.int p3)]) (plainFor_of_name (by decide)) [false, false, false, false] (fun G => ⟨pk_r, pk_i, pk_i, pk_i, trivial⟩) (Nat.le_of_ble_eq_true rfl) rfl (fun X => ?_)
  unfold jx_Mo_used
  refine fp_aload_n (i := 0) (r := p0) dd_Mo_used_0 rfl rfl (fr_pc (pc' := 1) rfl ?_)
  refine fp_iload_n (i := 1) (x := p1) dd_Mo_used_1 rfl rfl (fr_pc (pc' := 2) rfl ?_)
  refine fr_callV (stk := []) (As := [.int p1]) cl_11 (ok_Mo_isTrain p0 p1) mt_Mo_isTrain rfl rfl sw_1274 sw_1276 sp_31 (by decide) (Nat.le_of_ble_eq_true rfl) dd_Mo_used_2 (fun x1 => fr_to (pc' := 5) (env' := [some (sf_rv p0), some (.int p1), some (.int p2), some (.int p3)]) (stk' := [.int x1]) rfl rfl rfl ?_)
  refine fr_if_eq (tgt := 29) dd_Mo_used_5 rfl (fun _ => ?_) (fun _ => ?_)
  · refine fp_iconst (v := (-1 : Int32)) dd_Mo_used_29 (by decide) (fr_pc (pc' := 30) rfl ?_)
    exact fr_iret (v := (-1 : Int32)) rfl rfl dd_Mo_used_30
  · refine fr_pc (pc' := 8) rfl ?_
    refine fp_iload_n (i := 2) (x := p2) dd_Mo_used_8 rfl rfl (fr_pc (pc' := 9) rfl ?_)
    refine fr_callS (stk := []) (ok_Mo_isStation p2) mt_Mo_isStation rfl rfl sw_1285 sw_1286 (by decide) (Nat.le_of_ble_eq_true rfl) dd_Mo_used_9 (fun x3 => fr_to (pc' := 12) (env' := [some (sf_rv p0), some (.int p1), some (.int p2), some (.int p3)]) (stk' := [.int x3]) rfl rfl rfl ?_)
    refine fr_if_eq (tgt := 29) dd_Mo_used_12 rfl (fun _ => ?_) (fun _ => ?_)
    · refine fp_iconst (v := (-1 : Int32)) dd_Mo_used_29 (by decide) (fr_pc (pc' := 30) rfl ?_)
      exact fr_iret (v := (-1 : Int32)) rfl rfl dd_Mo_used_30
    · refine fr_pc (pc' := 15) rfl ?_
      refine fp_iload_n (i := 3) (x := p3) dd_Mo_used_15 rfl rfl (fr_pc (pc' := 16) rfl ?_)
      refine fp_iconst (v := (-1 : Int32)) dd_Mo_used_16 (by decide) (fr_pc (pc' := 17) rfl ?_)
      refine fr_icmp_lt (tgt := 29) dd_Mo_used_17 rfl (fun _ => ?_) (fun _ => ?_)
      · refine fp_iconst (v := (-1 : Int32)) dd_Mo_used_29 (by decide) (fr_pc (pc' := 30) rfl ?_)
        exact fr_iret (v := (-1 : Int32)) rfl rfl dd_Mo_used_30
      · refine fr_pc (pc' := 20) rfl ?_
        refine fp_aload_n (i := 0) (r := p0) dd_Mo_used_20 rfl rfl (fr_pc (pc' := 21) rfl ?_)
        refine fp_iload_n (i := 1) (x := p1) dd_Mo_used_21 rfl rfl (fr_pc (pc' := 22) rfl ?_)
        refine fp_iload_n (i := 2) (x := p2) dd_Mo_used_22 rfl rfl (fr_pc (pc' := 23) rfl ?_)
        refine fr_callV (stk := []) (As := [.int p1, .int p2]) cl_11 (ok_Mo_canRide p0 p1 p2) mt_Mo_canRide rfl rfl sw_1648 sw_1650 sp_89 (by decide) (Nat.le_of_ble_eq_true rfl) dd_Mo_used_23 (fun x6 => fr_to (pc' := 26) (env' := [some (sf_rv p0), some (.int p1), some (.int p2), some (.int p3)]) (stk' := [.int x6]) rfl rfl rfl ?_)
        refine fr_if_ne (tgt := 31) dd_Mo_used_26 rfl (fun _ => ?_) (fun _ => ?_)
        · refine fr_pc (pc' := 29) rfl ?_
          refine fp_iconst (v := (-1 : Int32)) dd_Mo_used_29 (by decide) (fr_pc (pc' := 30) rfl ?_)
          exact fr_iret (v := (-1 : Int32)) rfl rfl dd_Mo_used_30
        · refine fp_iload_n (i := 3) (x := p3) dd_Mo_used_31 rfl rfl (fr_pc (pc' := 32) rfl ?_)
          refine fp_iconst (v := (-1 : Int32)) dd_Mo_used_32 (by decide) (fr_pc (pc' := 33) rfl ?_)
          refine fr_icmp_ne (tgt := 45) dd_Mo_used_33 rfl (fun _ => ?_) (fun _ => ?_)
          · refine fr_pc (pc' := 36) rfl ?_
            refine fp_aload_n (i := 0) (r := p0) dd_Mo_used_36 rfl rfl (fr_pc (pc' := 37) rfl ?_)
            refine fr_gR cl_11 32 (by decide) rfl sw_1104 dd_Mo_used_37 (fun x9 => fr_pc (pc' := 40) rfl ?_)
            refine fp_iconst (v := (0 : Int32)) dd_Mo_used_40 (by decide) (fr_pc (pc' := 41) rfl ?_)
            refine fr_aI0 dd_Mo_used_41 (fun x10 => fr_pc (pc' := 42) rfl ?_)
            refine fp_goto (tgt := 50) dd_Mo_used_42 rfl ?_
            exact fr_iret (v := x10) rfl rfl dd_Mo_used_50
          · refine fp_aload_n (i := 0) (r := p0) dd_Mo_used_45 rfl rfl (fr_pc (pc' := 46) rfl ?_)
            refine fp_iload_n (i := 3) (x := p3) dd_Mo_used_46 rfl rfl (fr_pc (pc' := 47) rfl ?_)
            refine fr_callV (stk := []) (As := [.int p3]) cl_11 (ok_Mo_endOf p0 p3) mt_Mo_endOf rfl rfl sw_1547 sw_1549 sp_77 (by decide) (Nat.le_of_ble_eq_true rfl) dd_Mo_used_47 (fun x11 => fr_to (pc' := 50) (env' := [some (sf_rv p0), some (.int p1), some (.int p2), some (.int p3)]) (stk' := [.int x11]) rfl rfl rfl ?_)
            exact fr_iret (v := x11) rfl rfl dd_Mo_used_50
theorem mt_Mo_told : sf_Mt ({ cls := "SplitFaresModel", name := "told", desc := "(II)I" } : Jvm.MethodName) prog_13_method_123_code 4 (some .int) 2 := ⟨sw_1700, sw_12, ⟨by decide, by decide, by decide +kernel⟩, by decide⟩
theorem dd_Mo_told_0 : decode prog_13_method_123_code 0 = .ok (.iload_n 1, 1) := by decide +kernel
theorem dd_Mo_told_1 : decode prog_13_method_123_code 1 = .ok (.invokestatic 22, 3) := by decide +kernel
theorem dd_Mo_told_4 : decode prog_13_method_123_code 4 = .ok (.ifCond .eq 14, 3) := by decide +kernel
theorem dd_Mo_told_7 : decode prog_13_method_123_code 7 = .ok (.iload_n 2, 1) := by decide +kernel
theorem dd_Mo_told_8 : decode prog_13_method_123_code 8 = .ok (.iconst (-1), 1) := by decide +kernel
theorem dd_Mo_told_9 : decode prog_13_method_123_code 9 = .ok (.ldc_w 428, 3) := by decide +kernel
theorem dd_Mo_told_12 : decode prog_13_method_123_code 12 = .ok (.invokestatic 18, 3) := by decide +kernel
theorem dd_Mo_told_15 : decode prog_13_method_123_code 15 = .ok (.ifCond .ne 9, 3) := by decide +kernel
theorem dd_Mo_told_24 : decode prog_13_method_123_code 24 = .ok (.sipush 213, 3) := by decide +kernel
theorem dd_Mo_told_27 : decode prog_13_method_123_code 27 = .ok (.iconst 2, 1) := by decide +kernel
theorem dd_Mo_told_28 : decode prog_13_method_123_code 28 = .ok (.aload_n 0, 1) := by decide +kernel
theorem dd_Mo_told_29 : decode prog_13_method_123_code 29 = .ok (.getfield 32, 3) := by decide +kernel
theorem dd_Mo_told_32 : decode prog_13_method_123_code 32 = .ok (.sipush 228, 3) := by decide +kernel
theorem dd_Mo_told_35 : decode prog_13_method_123_code 35 = .ok (.iaload, 1) := by decide +kernel
theorem dd_Mo_told_36 : decode prog_13_method_123_code 36 = .ok (.imul, 1) := by decide +kernel
theorem dd_Mo_told_37 : decode prog_13_method_123_code 37 = .ok (.iadd, 1) := by decide +kernel
theorem dd_Mo_told_38 : decode prog_13_method_123_code 38 = .ok (.istore_n 3, 1) := by decide +kernel
theorem dd_Mo_told_39 : decode prog_13_method_123_code 39 = .ok (.aload_n 0, 1) := by decide +kernel
theorem dd_Mo_told_40 : decode prog_13_method_123_code 40 = .ok (.getfield 32, 3) := by decide +kernel
theorem dd_Mo_told_43 : decode prog_13_method_123_code 43 = .ok (.sipush 228, 3) := by decide +kernel
theorem dd_Mo_told_46 : decode prog_13_method_123_code 46 = .ok (.iaload, 1) := by decide +kernel
theorem dd_Mo_told_47 : decode prog_13_method_123_code 47 = .ok (.bipush 6, 2) := by decide +kernel
theorem dd_Mo_told_49 : decode prog_13_method_123_code 49 = .ok (.if_icmp .ne 10, 3) := by decide +kernel
theorem dd_Mo_told_52 : decode prog_13_method_123_code 52 = .ok (.aload_n 0, 1) := by decide +kernel
theorem dd_Mo_told_53 : decode prog_13_method_123_code 53 = .ok (.bipush (-5), 2) := by decide +kernel
theorem dd_Mo_told_55 : decode prog_13_method_123_code 55 = .ok (.invokevirtual 116, 3) := by decide +kernel
theorem dd_Mo_told_58 : decode prog_13_method_123_code 58 = .ok (.ireturn, 1) := by decide +kernel
theorem dd_Mo_told_59 : decode prog_13_method_123_code 59 = .ok (.aload_n 0, 1) := by decide +kernel
theorem dd_Mo_told_60 : decode prog_13_method_123_code 60 = .ok (.getfield 32, 3) := by decide +kernel
theorem dd_Mo_told_63 : decode prog_13_method_123_code 63 = .ok (.iload_n 3, 1) := by decide +kernel
theorem dd_Mo_told_64 : decode prog_13_method_123_code 64 = .ok (.iload_n 1, 1) := by decide +kernel
theorem dd_Mo_told_65 : decode prog_13_method_123_code 65 = .ok (.iastore, 1) := by decide +kernel
theorem dd_Mo_told_66 : decode prog_13_method_123_code 66 = .ok (.aload_n 0, 1) := by decide +kernel
theorem dd_Mo_told_67 : decode prog_13_method_123_code 67 = .ok (.getfield 32, 3) := by decide +kernel
theorem dd_Mo_told_70 : decode prog_13_method_123_code 70 = .ok (.iload_n 3, 1) := by decide +kernel
theorem dd_Mo_told_71 : decode prog_13_method_123_code 71 = .ok (.iconst 1, 1) := by decide +kernel
theorem dd_Mo_told_72 : decode prog_13_method_123_code 72 = .ok (.iadd, 1) := by decide +kernel
theorem dd_Mo_told_73 : decode prog_13_method_123_code 73 = .ok (.iload_n 2, 1) := by decide +kernel
theorem dd_Mo_told_74 : decode prog_13_method_123_code 74 = .ok (.iastore, 1) := by decide +kernel
theorem dd_Mo_told_75 : decode prog_13_method_123_code 75 = .ok (.aload_n 0, 1) := by decide +kernel
theorem dd_Mo_told_76 : decode prog_13_method_123_code 76 = .ok (.getfield 32, 3) := by decide +kernel
theorem dd_Mo_told_79 : decode prog_13_method_123_code 79 = .ok (.sipush 228, 3) := by decide +kernel
theorem dd_Mo_told_82 : decode prog_13_method_123_code 82 = .ok (.dup2, 1) := by decide +kernel
theorem dd_Mo_told_83 : decode prog_13_method_123_code 83 = .ok (.iaload, 1) := by decide +kernel
theorem dd_Mo_told_84 : decode prog_13_method_123_code 84 = .ok (.iconst 1, 1) := by decide +kernel
theorem dd_Mo_told_85 : decode prog_13_method_123_code 85 = .ok (.iadd, 1) := by decide +kernel
theorem dd_Mo_told_86 : decode prog_13_method_123_code 86 = .ok (.iastore, 1) := by decide +kernel
theorem dd_Mo_told_87 : decode prog_13_method_123_code 87 = .ok (.aload_n 0, 1) := by decide +kernel
theorem dd_Mo_told_88 : decode prog_13_method_123_code 88 = .ok (.aload_n 0, 1) := by decide +kernel
theorem dd_Mo_told_89 : decode prog_13_method_123_code 89 = .ok (.getfield 32, 3) := by decide +kernel
theorem dd_Mo_told_92 : decode prog_13_method_123_code 92 = .ok (.sipush 228, 3) := by decide +kernel
theorem dd_Mo_told_95 : decode prog_13_method_123_code 95 = .ok (.iaload, 1) := by decide +kernel
theorem dd_Mo_told_96 : decode prog_13_method_123_code 96 = .ok (.invokevirtual 14, 3) := by decide +kernel
theorem dd_Mo_told_99 : decode prog_13_method_123_code 99 = .ok (.ireturn, 1) := by decide +kernel
theorem dd_Mo_told_18 : decode prog_13_method_123_code 18 = .ok (.aload_n 0, 1) := by decide +kernel
theorem dd_Mo_told_19 : decode prog_13_method_123_code 19 = .ok (.iconst (-1), 1) := by decide +kernel
theorem dd_Mo_told_20 : decode prog_13_method_123_code 20 = .ok (.invokevirtual 116, 3) := by decide +kernel
theorem dd_Mo_told_23 : decode prog_13_method_123_code 23 = .ok (.ireturn, 1) := by decide +kernel
def jx_Mo_told (p0 : Option Nat) (p1 : Int32) (p2 : Int32) : sf_M (Int32) :=
  sf_bnd (jx_Mo_isStation p1) fun x1 =>
  sf_or (α := Int32) (β := (Unit)) (
  if x1 = 0 then (
  sf_ret (.inr ())
  ) else (
  sf_bnd (jx_Mo_lies p2 (-1 : Int32) (99999 : Int32)) fun x3 =>
  if x3 = 0 then (
  sf_ret (.inr ())
  ) else (
  sf_bnd (sf_gR 11 2 p0) fun x5 =>
  sf_bnd (sf_aI 0 x5 (228 : Int32)) fun x6 =>
  sf_bnd (sf_ret (((213 : Int32) + ((2 : Int32) * x6)))) fun y7 =>
  sf_bnd (sf_gR 11 2 p0) fun x8 =>
  sf_bnd (sf_aI 0 x8 (228 : Int32)) fun x9 =>
  if x9 = (6 : Int32) then (
  sf_bnd (sf_rc 11 p0 (jx_Mo_refuses p0 (-5 : Int32))) fun x11 =>
  sf_ret (.inl x11)
  ) else (
  sf_bnd (sf_gR 11 2 p0) fun x12 =>
  sf_bnd (sf_sI 0 x12 y7 p1) fun _ =>
  sf_bnd (sf_gR 11 2 p0) fun x13 =>
  sf_bnd (sf_sI 0 x13 (y7 + (1 : Int32)) p2) fun _ =>
  sf_bnd (sf_gR 11 2 p0) fun x14 =>
  sf_bnd (sf_aI 0 x14 (228 : Int32)) fun x15 =>
  sf_bnd (sf_sI 0 x14 (228 : Int32) (x15 + (1 : Int32))) fun _ =>
  sf_bnd (sf_gR 11 2 p0) fun x16 =>
  sf_bnd (sf_aI 0 x16 (228 : Int32)) fun x17 =>
  sf_bnd (sf_rc 11 p0 (jx_Mo_good p0 x17)) fun x18 =>
  sf_ret (.inl x18)
  )
  )
  )
  ) (fun v19 =>
  sf_bnd (sf_rc 11 p0 (jx_Mo_refuses p0 (-1 : Int32))) fun x20 =>
  sf_ret x20
  )
set_option maxRecDepth 20000 in
set_option maxHeartbeats 4000000 in
theorem ok_Mo_told (p0 : Option Nat) (p1 : Int32) (p2 : Int32) : sf_Ok ({ cls := "SplitFaresModel", name := "told", desc := "(II)I" } : Jvm.MethodName) prog_13_method_123_code 4 (some .int) 2 [sf_rv p0, .int p1, .int p2] (jx_Mo_told p0 p1 p2) (fun r => some (.int r)) := by
  refine sf_Ok.of (env := [some (sf_rv p0), some (.int p1), some (.int p2), none]) (plainFor_of_name (by decide)) [false, false, false] (fun G => ⟨pk_r, pk_i, pk_i, trivial⟩) (Nat.le_of_ble_eq_true rfl) rfl (fun X => ?_)
  unfold jx_Mo_told
  refine fp_iload_n (i := 1) (x := p1) dd_Mo_told_0 rfl rfl (fr_pc (pc' := 1) rfl ?_)
  refine fr_callS (stk := []) (ok_Mo_isStation p1) mt_Mo_isStation rfl rfl sw_1285 sw_1286 (by decide) (Nat.le_of_ble_eq_true rfl) dd_Mo_told_1 (fun x1 => fr_to (pc' := 4) (env' := [some (sf_rv p0), some (.int p1), some (.int p2), none]) (stk' := [.int x1]) rfl rfl rfl ?_)
  refine fr_or (l1 := (fun (v19 : (Unit)) => sf_p 18 [some (sf_rv p0), some (.int p1), some (.int p2), none] [])) ?_ (fun v19 => ?_)
  · refine fr_if_eq (tgt := 18) dd_Mo_told_4 rfl (fun _ => ?_) (fun _ => ?_)
    · exact fr_ret rfl
    · refine fr_pc (pc' := 7) rfl ?_
      refine fp_iload_n (i := 2) (x := p2) dd_Mo_told_7 rfl rfl (fr_pc (pc' := 8) rfl ?_)
      refine fp_iconst (v := (-1 : Int32)) dd_Mo_told_8 (by decide) (fr_pc (pc' := 9) rfl ?_)
      refine fp_ldcw (v := (99999 : Int32)) dd_Mo_told_9 sw_1680 (fr_pc (pc' := 12) rfl ?_)
      refine fr_callS (stk := []) (ok_Mo_lies p2 (-1 : Int32) (99999 : Int32)) mt_Mo_lies rfl rfl sw_1237 sw_1238 (by decide) (Nat.le_of_ble_eq_true rfl) dd_Mo_told_12 (fun x3 => fr_to (pc' := 15) (env' := [some (sf_rv p0), some (.int p1), some (.int p2), none]) (stk' := [.int x3]) rfl rfl rfl ?_)
      refine fr_if_ne (tgt := 24) dd_Mo_told_15 rfl (fun _ => ?_) (fun _ => ?_)
      · refine fr_pc (pc' := 18) rfl ?_
        exact fr_ret rfl
      · refine fp_sipush (v := (213 : Int32)) dd_Mo_told_24 (by decide) (fr_pc (pc' := 27) rfl ?_)
        refine fp_iconst (v := (2 : Int32)) dd_Mo_told_27 (by decide) (fr_pc (pc' := 28) rfl ?_)
        refine fp_aload_n (i := 0) (r := p0) dd_Mo_told_28 rfl rfl (fr_pc (pc' := 29) rfl ?_)
        refine fr_gR cl_11 2 (by decide) rfl sw_1074 dd_Mo_told_29 (fun x5 => fr_pc (pc' := 32) rfl ?_)
        refine fp_sipush (v := (228 : Int32)) dd_Mo_told_32 (by decide) (fr_pc (pc' := 35) rfl ?_)
        refine fr_aI0 dd_Mo_told_35 (fun x6 => fr_pc (pc' := 36) rfl ?_)
        refine fp_imul dd_Mo_told_36 (fr_pc (pc' := 37) rfl ?_)
        refine fp_iadd dd_Mo_told_37 (fr_pc (pc' := 38) rfl ?_)
        refine fr_nistore_n (i := 3) dd_Mo_told_38 rfl (Nat.le_of_ble_eq_true rfl) (fun _ => c1_i rfl) (fun y7 => fr_to (pc' := 39) (env' := [some (sf_rv p0), some (.int p1), some (.int p2), some (.int y7)]) (stk' := []) rfl rfl rfl ?_)
        refine fp_aload_n (i := 0) (r := p0) dd_Mo_told_39 rfl rfl (fr_pc (pc' := 40) rfl ?_)
        refine fr_gR cl_11 2 (by decide) rfl sw_1074 dd_Mo_told_40 (fun x8 => fr_pc (pc' := 43) rfl ?_)
        refine fp_sipush (v := (228 : Int32)) dd_Mo_told_43 (by decide) (fr_pc (pc' := 46) rfl ?_)
        refine fr_aI0 dd_Mo_told_46 (fun x9 => fr_pc (pc' := 47) rfl ?_)
        refine fp_bipush (v := (6 : Int32)) dd_Mo_told_47 (by decide) (fr_pc (pc' := 49) rfl ?_)
        refine fr_icmp_ne (tgt := 59) dd_Mo_told_49 rfl (fun _ => ?_) (fun _ => ?_)
        · refine fr_pc (pc' := 52) rfl ?_
          refine fp_aload_n (i := 0) (r := p0) dd_Mo_told_52 rfl rfl (fr_pc (pc' := 53) rfl ?_)
          refine fp_bipush (v := (-5 : Int32)) dd_Mo_told_53 (by decide) (fr_pc (pc' := 55) rfl ?_)
          refine fr_callV (stk := []) (As := [.int (-5 : Int32)]) cl_11 (ok_Mo_refuses p0 (-5 : Int32)) mt_Mo_refuses rfl rfl sw_1240 sw_1242 sp_27 (by decide) (Nat.le_of_ble_eq_true rfl) dd_Mo_told_55 (fun x11 => fr_to (pc' := 58) (env' := [some (sf_rv p0), some (.int p1), some (.int p2), some (.int y7)]) (stk' := [.int x11]) rfl rfl rfl ?_)
          exact fr_iret (v := x11) rfl rfl dd_Mo_told_58
        · refine fp_aload_n (i := 0) (r := p0) dd_Mo_told_59 rfl rfl (fr_pc (pc' := 60) rfl ?_)
          refine fr_gR cl_11 2 (by decide) rfl sw_1074 dd_Mo_told_60 (fun x12 => fr_pc (pc' := 63) rfl ?_)
          refine fp_iload_n (i := 3) (x := y7) dd_Mo_told_63 rfl rfl (fr_pc (pc' := 64) rfl ?_)
          refine fp_iload_n (i := 1) (x := p1) dd_Mo_told_64 rfl rfl (fr_pc (pc' := 65) rfl ?_)
          refine fr_sI0 dd_Mo_told_65 (fr_pc (pc' := 66) rfl ?_)
          refine fp_aload_n (i := 0) (r := p0) dd_Mo_told_66 rfl rfl (fr_pc (pc' := 67) rfl ?_)
          refine fr_gR cl_11 2 (by decide) rfl sw_1074 dd_Mo_told_67 (fun x13 => fr_pc (pc' := 70) rfl ?_)
          refine fp_iload_n (i := 3) (x := y7) dd_Mo_told_70 rfl rfl (fr_pc (pc' := 71) rfl ?_)
          refine fp_iconst (v := (1 : Int32)) dd_Mo_told_71 (by decide) (fr_pc (pc' := 72) rfl ?_)
          refine fp_iadd dd_Mo_told_72 (fr_pc (pc' := 73) rfl ?_)
          refine fp_iload_n (i := 2) (x := p2) dd_Mo_told_73 rfl rfl (fr_pc (pc' := 74) rfl ?_)
          refine fr_sI0 dd_Mo_told_74 (fr_pc (pc' := 75) rfl ?_)
          refine fp_aload_n (i := 0) (r := p0) dd_Mo_told_75 rfl rfl (fr_pc (pc' := 76) rfl ?_)
          refine fr_gR cl_11 2 (by decide) rfl sw_1074 dd_Mo_told_76 (fun x14 => fr_pc (pc' := 79) rfl ?_)
          refine fp_sipush (v := (228 : Int32)) dd_Mo_told_79 (by decide) (fr_pc (pc' := 82) rfl ?_)
          refine fp_dup2 dd_Mo_told_82 (fr_pc (pc' := 83) rfl ?_)
          refine fr_aI0 dd_Mo_told_83 (fun x15 => fr_pc (pc' := 84) rfl ?_)
          refine fp_iconst (v := (1 : Int32)) dd_Mo_told_84 (by decide) (fr_pc (pc' := 85) rfl ?_)
          refine fp_iadd dd_Mo_told_85 (fr_pc (pc' := 86) rfl ?_)
          refine fr_sI0 dd_Mo_told_86 (fr_pc (pc' := 87) rfl ?_)
          refine fp_aload_n (i := 0) (r := p0) dd_Mo_told_87 rfl rfl (fr_pc (pc' := 88) rfl ?_)
          refine fp_aload_n (i := 0) (r := p0) dd_Mo_told_88 rfl rfl (fr_pc (pc' := 89) rfl ?_)
          refine fr_gR cl_11 2 (by decide) rfl sw_1074 dd_Mo_told_89 (fun x16 => fr_pc (pc' := 92) rfl ?_)
          refine fp_sipush (v := (228 : Int32)) dd_Mo_told_92 (by decide) (fr_pc (pc' := 95) rfl ?_)
          refine fr_aI0 dd_Mo_told_95 (fun x17 => fr_pc (pc' := 96) rfl ?_)
          refine fr_callV (stk := []) (As := [.int x17]) cl_11 (ok_Mo_good p0 x17) mt_Mo_good rfl rfl sw_1244 sw_1246 sp_28 (by decide) (Nat.le_of_ble_eq_true rfl) dd_Mo_told_96 (fun x18 => fr_to (pc' := 99) (env' := [some (sf_rv p0), some (.int p1), some (.int p2), some (.int y7)]) (stk' := [.int x18]) rfl rfl rfl ?_)
          exact fr_iret (v := x18) rfl rfl dd_Mo_told_99
  · refine fp_aload_n (i := 0) (r := p0) dd_Mo_told_18 rfl rfl (fr_pc (pc' := 19) rfl ?_)
    refine fp_iconst (v := (-1 : Int32)) dd_Mo_told_19 (by decide) (fr_pc (pc' := 20) rfl ?_)
    refine fr_callV (stk := []) (As := [.int (-1 : Int32)]) cl_11 (ok_Mo_refuses p0 (-1 : Int32)) mt_Mo_refuses rfl rfl sw_1240 sw_1242 sp_27 (by decide) (Nat.le_of_ble_eq_true rfl) dd_Mo_told_20 (fun x20 => fr_to (pc' := 23) (env' := [some (sf_rv p0), some (.int p1), some (.int p2), none]) (stk' := [.int x20]) rfl rfl rfl ?_)
    exact fr_iret (v := x20) rfl rfl dd_Mo_told_23
theorem mt_Mo_forget : sf_Mt ({ cls := "SplitFaresModel", name := "forget", desc := "()I" } : Jvm.MethodName) prog_13_method_124_code 2 (some .int) 0 := ⟨sw_1704, sw_12, ⟨by decide, by decide, by decide +kernel⟩, by decide⟩
theorem dd_Mo_forget_0 : decode prog_13_method_124_code 0 = .ok (.aload_n 0, 1) := by decide +kernel
theorem dd_Mo_forget_1 : decode prog_13_method_124_code 1 = .ok (.getfield 32, 3) := by decide +kernel
theorem dd_Mo_forget_4 : decode prog_13_method_124_code 4 = .ok (.sipush 228, 3) := by decide +kernel
theorem dd_Mo_forget_7 : decode prog_13_method_124_code 7 = .ok (.iaload, 1) := by decide +kernel
theorem dd_Mo_forget_8 : decode prog_13_method_124_code 8 = .ok (.istore_n 1, 1) := by decide +kernel
theorem dd_Mo_forget_9 : decode prog_13_method_124_code 9 = .ok (.aload_n 0, 1) := by decide +kernel
theorem dd_Mo_forget_10 : decode prog_13_method_124_code 10 = .ok (.getfield 32, 3) := by decide +kernel
theorem dd_Mo_forget_13 : decode prog_13_method_124_code 13 = .ok (.sipush 228, 3) := by decide +kernel
theorem dd_Mo_forget_16 : decode prog_13_method_124_code 16 = .ok (.iconst 0, 1) := by decide +kernel
theorem dd_Mo_forget_17 : decode prog_13_method_124_code 17 = .ok (.iastore, 1) := by decide +kernel
theorem dd_Mo_forget_18 : decode prog_13_method_124_code 18 = .ok (.iload_n 1, 1) := by decide +kernel
theorem dd_Mo_forget_19 : decode prog_13_method_124_code 19 = .ok (.ireturn, 1) := by decide +kernel
def jx_Mo_forget (p0 : Option Nat) : sf_M (Int32) :=
  sf_bnd (sf_gR 11 2 p0) fun x1 =>
  sf_bnd (sf_aI 0 x1 (228 : Int32)) fun x2 =>
  sf_bnd (sf_gR 11 2 p0) fun x3 =>
  sf_bnd (sf_sI 0 x3 (228 : Int32) (0 : Int32)) fun _ =>
  sf_ret x2
set_option maxRecDepth 20000 in
set_option maxHeartbeats 4000000 in
theorem ok_Mo_forget (p0 : Option Nat) : sf_Ok ({ cls := "SplitFaresModel", name := "forget", desc := "()I" } : Jvm.MethodName) prog_13_method_124_code 2 (some .int) 0 [sf_rv p0] (jx_Mo_forget p0) (fun r => some (.int r)) := by
  refine sf_Ok.of (env := [some (sf_rv p0), none]) (plainFor_of_name (by decide)) [false] (fun G => ⟨pk_r, trivial⟩) (Nat.le_of_ble_eq_true rfl) rfl (fun X => ?_)
  unfold jx_Mo_forget
  refine fp_aload_n (i := 0) (r := p0) dd_Mo_forget_0 rfl rfl (fr_pc (pc' := 1) rfl ?_)
  refine fr_gR cl_11 2 (by decide) rfl sw_1074 dd_Mo_forget_1 (fun x1 => fr_pc (pc' := 4) rfl ?_)
  refine fp_sipush (v := (228 : Int32)) dd_Mo_forget_4 (by decide) (fr_pc (pc' := 7) rfl ?_)
  refine fr_aI0 dd_Mo_forget_7 (fun x2 => fr_pc (pc' := 8) rfl ?_)
  refine fp_istore_n (i := 1) dd_Mo_forget_8 rfl (Nat.le_of_ble_eq_true rfl) (fun _ => c1_r rfl) (fr_to (pc' := 9) (env' := [some (sf_rv p0), some (.int x2)]) (stk' := []) rfl rfl rfl ?_)
  refine fp_aload_n (i := 0) (r := p0) dd_Mo_forget_9 rfl rfl (fr_pc (pc' := 10) rfl ?_)
  refine fr_gR cl_11 2 (by decide) rfl sw_1074 dd_Mo_forget_10 (fun x3 => fr_pc (pc' := 13) rfl ?_)
  refine fp_sipush (v := (228 : Int32)) dd_Mo_forget_13 (by decide) (fr_pc (pc' := 16) rfl ?_)
  refine fp_iconst (v := (0 : Int32)) dd_Mo_forget_16 (by decide) (fr_pc (pc' := 17) rfl ?_)
  refine fr_sI0 dd_Mo_forget_17 (fr_pc (pc' := 18) rfl ?_)
  refine fp_iload_n (i := 1) (x := x2) dd_Mo_forget_18 rfl rfl (fr_pc (pc' := 19) rfl ?_)
  exact fr_iret (v := x2) rfl rfl dd_Mo_forget_19
theorem mt_Mo_laysFares : sf_Mt ({ cls := "SplitFaresModel", name := "laysFares", desc := "()V" } : Jvm.MethodName) prog_13_method_125_code 3 none 0 := ⟨sw_1712, sw_12, ⟨by decide, by decide, by decide +kernel⟩, by decide⟩
theorem dd_Mo_laysFares_0 : decode prog_13_method_125_code 0 = .ok (.iconst 0, 1) := by decide +kernel
theorem dd_Mo_laysFares_1 : decode prog_13_method_125_code 1 = .ok (.istore_n 1, 1) := by decide +kernel
theorem dd_Mo_laysFares_2 : decode prog_13_method_125_code 2 = .ok (.iload_n 1, 1) := by decide +kernel
theorem dd_Mo_laysFares_3 : decode prog_13_method_125_code 3 = .ok (.aload_n 0, 1) := by decide +kernel
theorem dd_Mo_laysFares_4 : decode prog_13_method_125_code 4 = .ok (.getfield 32, 3) := by decide +kernel
theorem dd_Mo_laysFares_7 : decode prog_13_method_125_code 7 = .ok (.sipush 227, 3) := by decide +kernel
theorem dd_Mo_laysFares_10 : decode prog_13_method_125_code 10 = .ok (.iaload, 1) := by decide +kernel
theorem dd_Mo_laysFares_11 : decode prog_13_method_125_code 11 = .ok (.if_icmp .ge 48, 3) := by decide +kernel
theorem dd_Mo_laysFares_14 : decode prog_13_method_125_code 14 = .ok (.iconst 0, 1) := by decide +kernel
theorem dd_Mo_laysFares_15 : decode prog_13_method_125_code 15 = .ok (.istore_n 2, 1) := by decide +kernel
theorem dd_Mo_laysFares_16 : decode prog_13_method_125_code 16 = .ok (.iload_n 2, 1) := by decide +kernel
theorem dd_Mo_laysFares_17 : decode prog_13_method_125_code 17 = .ok (.bipush 8, 2) := by decide +kernel
theorem dd_Mo_laysFares_19 : decode prog_13_method_125_code 19 = .ok (.if_icmp .ge 34, 3) := by decide +kernel
theorem dd_Mo_laysFares_22 : decode prog_13_method_125_code 22 = .ok (.aload_n 0, 1) := by decide +kernel
theorem dd_Mo_laysFares_23 : decode prog_13_method_125_code 23 = .ok (.getfield 100, 3) := by decide +kernel
theorem dd_Mo_laysFares_26 : decode prog_13_method_125_code 26 = .ok (.bipush 8, 2) := by decide +kernel
theorem dd_Mo_laysFares_28 : decode prog_13_method_125_code 28 = .ok (.iload_n 1, 1) := by decide +kernel
theorem dd_Mo_laysFares_29 : decode prog_13_method_125_code 29 = .ok (.imul, 1) := by decide +kernel
theorem dd_Mo_laysFares_30 : decode prog_13_method_125_code 30 = .ok (.iload_n 2, 1) := by decide +kernel
theorem dd_Mo_laysFares_31 : decode prog_13_method_125_code 31 = .ok (.iadd, 1) := by decide +kernel
theorem dd_Mo_laysFares_32 : decode prog_13_method_125_code 32 = .ok (.aload_n 0, 1) := by decide +kernel
theorem dd_Mo_laysFares_33 : decode prog_13_method_125_code 33 = .ok (.iload_n 1, 1) := by decide +kernel
theorem dd_Mo_laysFares_34 : decode prog_13_method_125_code 34 = .ok (.aload_n 0, 1) := by decide +kernel
theorem dd_Mo_laysFares_35 : decode prog_13_method_125_code 35 = .ok (.getfield 32, 3) := by decide +kernel
theorem dd_Mo_laysFares_38 : decode prog_13_method_125_code 38 = .ok (.sipush 192, 3) := by decide +kernel
theorem dd_Mo_laysFares_41 : decode prog_13_method_125_code 41 = .ok (.iaload, 1) := by decide +kernel
theorem dd_Mo_laysFares_42 : decode prog_13_method_125_code 42 = .ok (.iload_n 2, 1) := by decide +kernel
theorem dd_Mo_laysFares_43 : decode prog_13_method_125_code 43 = .ok (.invokevirtual 379, 3) := by decide +kernel
theorem dd_Mo_laysFares_46 : decode prog_13_method_125_code 46 = .ok (.iastore, 1) := by decide +kernel
theorem dd_Mo_laysFares_47 : decode prog_13_method_125_code 47 = .ok (.iinc 2 1, 3) := by decide +kernel
theorem dd_Mo_laysFares_50 : decode prog_13_method_125_code 50 = .ok (.goto (-34), 3) := by decide +kernel
theorem dd_Mo_laysFares_53 : decode prog_13_method_125_code 53 = .ok (.iinc 1 1, 3) := by decide +kernel
theorem dd_Mo_laysFares_56 : decode prog_13_method_125_code 56 = .ok (.goto (-54), 3) := by decide +kernel
theorem dd_Mo_laysFares_59 : decode prog_13_method_125_code 59 = .ok (.return_, 1) := by decide +kernel
def jx_Mo_laysFares (p0 : Option Nat) : sf_M (Unit) :=
  sf_bnd (sf_loop (β := (Int32)) (γ := (Unit)) (fun b1 =>
  sf_bnd (sf_gR 11 2 p0) fun x2 =>
  sf_bnd (sf_aI 0 x2 (227 : Int32)) fun x3 =>
  if x3 ≤ b1 then (
  sf_ret (.inr ())
  ) else (
  sf_bnd (sf_loop (β := (Int32)) (γ := (Unit)) (fun b5 =>
  if (8 : Int32) ≤ b5 then (
  sf_ret (.inr ())
  ) else (
  sf_bnd (sf_gR 11 41 p0) fun x7 =>
  sf_bnd (sf_gR 11 2 p0) fun x8 =>
  sf_bnd (sf_aI 0 x8 (192 : Int32)) fun x9 =>
  sf_bnd (sf_rc 11 p0 (jx_Mo_cheapestOf p0 b1 x9 b5)) fun x10 =>
  sf_bnd (sf_sI 0 x7 (((8 : Int32) * b1) + b5) x10) fun _ =>
  sf_bnd (sf_ret (b5 + (1 : Int32))) fun y11 =>
  sf_ret (.inl y11)
  )
  ) sf_fuel (0 : Int32)) (fun e12 =>
  sf_bnd (sf_ret (b1 + (1 : Int32))) fun y13 =>
  sf_ret (.inl y13)
  )
  )
  ) sf_fuel (0 : Int32)) (fun e14 =>
  sf_ret ()
  )
set_option maxRecDepth 20000 in
set_option maxHeartbeats 4000000 in
theorem ok_Mo_laysFares (p0 : Option Nat) : sf_Ok ({ cls := "SplitFaresModel", name := "laysFares", desc := "()V" } : Jvm.MethodName) prog_13_method_125_code 3 none 209 [sf_rv p0] (jx_Mo_laysFares p0) (fun _ => none) := by
  refine sf_Ok.of (env := [some (sf_rv p0), none, none]) (plainFor_of_name (by decide)) [false] (fun G => ⟨pk_r, trivial⟩) (Nat.le_of_ble_eq_true rfl) rfl (fun X => ?_)
  unfold jx_Mo_laysFares
  refine fp_iconst (v := (0 : Int32)) dd_Mo_laysFares_0 (by decide) (fr_pc (pc' := 1) rfl ?_)
  refine fp_istore_n (i := 1) dd_Mo_laysFares_1 rfl (Nat.le_of_ble_eq_true rfl) (fun _ => c1_r rfl) (fr_to (pc' := 2) (env' := [some (sf_rv p0), some (.int (0 : Int32)), none]) (stk' := []) rfl rfl rfl ?_)
  refine fr_to (pc' := 2) (env' := [some (sf_rv p0), some (.int (0 : Int32)), none]) (stk' := []) rfl rfl rfl ?_
  refine fr_bnd (l1 := (fun (e14 : (Unit)) => sf_p 59 [some (sf_rv p0), none, none] [])) (fr_loop (Lb := (fun (b1 : (Int32)) => sf_p 2 [some (sf_rv p0), some (.int b1), none] [])) (fun b1 => ?_) _ _) (fun e14 => ?_)
  · refine fp_iload_n (i := 1) (x := b1) dd_Mo_laysFares_2 rfl rfl (fr_pc (pc' := 3) rfl ?_)
    refine fp_aload_n (i := 0) (r := p0) dd_Mo_laysFares_3 rfl rfl (fr_pc (pc' := 4) rfl ?_)
    refine fr_gR cl_11 2 (by decide) rfl sw_1074 dd_Mo_laysFares_4 (fun x2 => fr_pc (pc' := 7) rfl ?_)
    refine fp_sipush (v := (227 : Int32)) dd_Mo_laysFares_7 (by decide) (fr_pc (pc' := 10) rfl ?_)
    refine fr_aI0 dd_Mo_laysFares_10 (fun x3 => fr_pc (pc' := 11) rfl ?_)
    refine fr_icmp_ge (tgt := 59) dd_Mo_laysFares_11 rfl (fun _ => ?_) (fun _ => ?_)
    · refine fr_wk [true, false, false] ?_
      exact fr_ret rfl
    · refine fr_pc (pc' := 14) rfl ?_
      refine fp_iconst (v := (0 : Int32)) dd_Mo_laysFares_14 (by decide) (fr_pc (pc' := 15) rfl ?_)
      refine fp_istore_n (i := 2) dd_Mo_laysFares_15 rfl (Nat.le_of_ble_eq_true rfl) (fun _ => c1_i rfl) (fr_to (pc' := 16) (env' := [some (sf_rv p0), some (.int b1), some (.int (0 : Int32))]) (stk' := []) rfl rfl rfl ?_)
      refine fr_to (pc' := 16) (env' := [some (sf_rv p0), some (.int b1), some (.int (0 : Int32))]) (stk' := []) rfl rfl rfl ?_
      refine fr_bnd (l1 := (fun (e12 : (Unit)) => sf_p 53 [some (sf_rv p0), some (.int b1), none] [])) (fr_loop (Lb := (fun (b5 : (Int32)) => sf_p 16 [some (sf_rv p0), some (.int b1), some (.int b5)] [])) (fun b5 => ?_) _ _) (fun e12 => ?_)
      · refine fp_iload_n (i := 2) (x := b5) dd_Mo_laysFares_16 rfl rfl (fr_pc (pc' := 17) rfl ?_)
        refine fp_bipush (v := (8 : Int32)) dd_Mo_laysFares_17 (by decide) (fr_pc (pc' := 19) rfl ?_)
        refine fr_icmp_ge (tgt := 53) dd_Mo_laysFares_19 rfl (fun _ => ?_) (fun _ => ?_)
        · refine fr_wk [true, true, false] ?_
          exact fr_ret rfl
        · refine fr_pc (pc' := 22) rfl ?_
          refine fp_aload_n (i := 0) (r := p0) dd_Mo_laysFares_22 rfl rfl (fr_pc (pc' := 23) rfl ?_)
          refine fr_gR cl_11 41 (by decide) rfl sw_1113 dd_Mo_laysFares_23 (fun x7 => fr_pc (pc' := 26) rfl ?_)
          refine fp_bipush (v := (8 : Int32)) dd_Mo_laysFares_26 (by decide) (fr_pc (pc' := 28) rfl ?_)
          refine fp_iload_n (i := 1) (x := b1) dd_Mo_laysFares_28 rfl rfl (fr_pc (pc' := 29) rfl ?_)
          refine fp_imul dd_Mo_laysFares_29 (fr_pc (pc' := 30) rfl ?_)
          refine fp_iload_n (i := 2) (x := b5) dd_Mo_laysFares_30 rfl rfl (fr_pc (pc' := 31) rfl ?_)
          refine fp_iadd dd_Mo_laysFares_31 (fr_pc (pc' := 32) rfl ?_)
          refine fp_aload_n (i := 0) (r := p0) dd_Mo_laysFares_32 rfl rfl (fr_pc (pc' := 33) rfl ?_)
          refine fp_iload_n (i := 1) (x := b1) dd_Mo_laysFares_33 rfl rfl (fr_pc (pc' := 34) rfl ?_)
          refine fp_aload_n (i := 0) (r := p0) dd_Mo_laysFares_34 rfl rfl (fr_pc (pc' := 35) rfl ?_)
          refine fr_gR cl_11 2 (by decide) rfl sw_1074 dd_Mo_laysFares_35 (fun x8 => fr_pc (pc' := 38) rfl ?_)
          refine fp_sipush (v := (192 : Int32)) dd_Mo_laysFares_38 (by decide) (fr_pc (pc' := 41) rfl ?_)
          refine fr_aI0 dd_Mo_laysFares_41 (fun x9 => fr_pc (pc' := 42) rfl ?_)
          refine fp_iload_n (i := 2) (x := b5) dd_Mo_laysFares_42 rfl rfl (fr_pc (pc' := 43) rfl ?_)
          refine fr_callV (stk := [.int (((8 : Int32) * b1) + b5), sf_rv x7]) (As := [.int b1, .int x9, .int b5]) cl_11 (ok_Mo_cheapestOf p0 b1 x9 b5) mt_Mo_cheapestOf rfl rfl sw_1523 sw_1525 sp_72 (by decide) (Nat.le_of_ble_eq_true rfl) dd_Mo_laysFares_43 (fun x10 => fr_to (pc' := 46) (env' := [some (sf_rv p0), some (.int b1), some (.int b5)]) (stk' := [.int x10, .int (((8 : Int32) * b1) + b5), sf_rv x7]) rfl rfl rfl ?_)
          refine fr_sI0 dd_Mo_laysFares_46 (fr_pc (pc' := 47) rfl ?_)
          refine fr_niinc (i := 2) (x := b5) (w := (1 : Int32)) dd_Mo_laysFares_47 rfl (by decide) (Nat.le_of_ble_eq_true rfl) (fun _ => c1_i rfl) (fun y11 => fr_to (pc' := 50) (env' := [some (sf_rv p0), some (.int b1), some (.int y11)]) (stk' := []) rfl rfl rfl ?_)
          refine fp_goto (tgt := 16) dd_Mo_laysFares_50 rfl ?_
          exact fr_ret rfl
      · refine fr_niinc (i := 1) (x := b1) (w := (1 : Int32)) dd_Mo_laysFares_53 rfl (by decide) (Nat.le_of_ble_eq_true rfl) (fun _ => c1_r rfl) (fun y13 => fr_to (pc' := 56) (env' := [some (sf_rv p0), some (.int y13), none]) (stk' := []) rfl rfl rfl ?_)
        refine fp_goto (tgt := 2) dd_Mo_laysFares_56 rfl ?_
        exact fr_ret rfl
  · exact fr_vret rfl rfl dd_Mo_laysFares_59
theorem mt_Mo_isSo : sf_Mt ({ cls := "SplitFaresModel", name := "isSo", desc := "(I)Z" } : Jvm.MethodName) prog_13_method_126_code 4 (some .boolean) 1 := ⟨sw_1716, sw_12, ⟨by decide, by decide, by decide +kernel⟩, by decide⟩
theorem dd_Mo_isSo_0 : decode prog_13_method_126_code 0 = .ok (.iconst 1, 1) := by decide +kernel
theorem dd_Mo_isSo_1 : decode prog_13_method_126_code 1 = .ok (.istore_n 2, 1) := by decide +kernel
theorem dd_Mo_isSo_2 : decode prog_13_method_126_code 2 = .ok (.iconst 0, 1) := by decide +kernel
theorem dd_Mo_isSo_3 : decode prog_13_method_126_code 3 = .ok (.istore_n 3, 1) := by decide +kernel
theorem dd_Mo_isSo_4 : decode prog_13_method_126_code 4 = .ok (.iload_n 3, 1) := by decide +kernel
theorem dd_Mo_isSo_5 : decode prog_13_method_126_code 5 = .ok (.aload_n 0, 1) := by decide +kernel
theorem dd_Mo_isSo_6 : decode prog_13_method_126_code 6 = .ok (.getfield 32, 3) := by decide +kernel
theorem dd_Mo_isSo_9 : decode prog_13_method_126_code 9 = .ok (.sipush 228, 3) := by decide +kernel
theorem dd_Mo_isSo_12 : decode prog_13_method_126_code 12 = .ok (.iaload, 1) := by decide +kernel
theorem dd_Mo_isSo_13 : decode prog_13_method_126_code 13 = .ok (.if_icmp .ge 58, 3) := by decide +kernel
theorem dd_Mo_isSo_16 : decode prog_13_method_126_code 16 = .ok (.iload_n 2, 1) := by decide +kernel
theorem dd_Mo_isSo_17 : decode prog_13_method_126_code 17 = .ok (.ifCond .eq 46, 3) := by decide +kernel
theorem dd_Mo_isSo_20 : decode prog_13_method_126_code 20 = .ok (.aload_n 0, 1) := by decide +kernel
theorem dd_Mo_isSo_21 : decode prog_13_method_126_code 21 = .ok (.getfield 100, 3) := by decide +kernel
theorem dd_Mo_isSo_24 : decode prog_13_method_126_code 24 = .ok (.bipush 8, 2) := by decide +kernel
theorem dd_Mo_isSo_26 : decode prog_13_method_126_code 26 = .ok (.iload_n 1, 1) := by decide +kernel
theorem dd_Mo_isSo_27 : decode prog_13_method_126_code 27 = .ok (.imul, 1) := by decide +kernel
theorem dd_Mo_isSo_28 : decode prog_13_method_126_code 28 = .ok (.aload_n 0, 1) := by decide +kernel
theorem dd_Mo_isSo_29 : decode prog_13_method_126_code 29 = .ok (.getfield 32, 3) := by decide +kernel
theorem dd_Mo_isSo_32 : decode prog_13_method_126_code 32 = .ok (.sipush 213, 3) := by decide +kernel
theorem dd_Mo_isSo_35 : decode prog_13_method_126_code 35 = .ok (.iconst 2, 1) := by decide +kernel
theorem dd_Mo_isSo_36 : decode prog_13_method_126_code 36 = .ok (.iload_n 3, 1) := by decide +kernel
theorem dd_Mo_isSo_37 : decode prog_13_method_126_code 37 = .ok (.imul, 1) := by decide +kernel
theorem dd_Mo_isSo_38 : decode prog_13_method_126_code 38 = .ok (.iadd, 1) := by decide +kernel
theorem dd_Mo_isSo_39 : decode prog_13_method_126_code 39 = .ok (.iaload, 1) := by decide +kernel
theorem dd_Mo_isSo_40 : decode prog_13_method_126_code 40 = .ok (.iadd, 1) := by decide +kernel
theorem dd_Mo_isSo_41 : decode prog_13_method_126_code 41 = .ok (.iaload, 1) := by decide +kernel
theorem dd_Mo_isSo_42 : decode prog_13_method_126_code 42 = .ok (.aload_n 0, 1) := by decide +kernel
theorem dd_Mo_isSo_43 : decode prog_13_method_126_code 43 = .ok (.getfield 32, 3) := by decide +kernel
theorem dd_Mo_isSo_46 : decode prog_13_method_126_code 46 = .ok (.sipush 213, 3) := by decide +kernel
theorem dd_Mo_isSo_49 : decode prog_13_method_126_code 49 = .ok (.iconst 2, 1) := by decide +kernel
theorem dd_Mo_isSo_50 : decode prog_13_method_126_code 50 = .ok (.iload_n 3, 1) := by decide +kernel
theorem dd_Mo_isSo_51 : decode prog_13_method_126_code 51 = .ok (.imul, 1) := by decide +kernel
theorem dd_Mo_isSo_52 : decode prog_13_method_126_code 52 = .ok (.iadd, 1) := by decide +kernel
theorem dd_Mo_isSo_53 : decode prog_13_method_126_code 53 = .ok (.iconst 1, 1) := by decide +kernel
theorem dd_Mo_isSo_54 : decode prog_13_method_126_code 54 = .ok (.iadd, 1) := by decide +kernel
theorem dd_Mo_isSo_55 : decode prog_13_method_126_code 55 = .ok (.iaload, 1) := by decide +kernel
theorem dd_Mo_isSo_56 : decode prog_13_method_126_code 56 = .ok (.if_icmp .ne 7, 3) := by decide +kernel
theorem dd_Mo_isSo_59 : decode prog_13_method_126_code 59 = .ok (.iconst 1, 1) := by decide +kernel
theorem dd_Mo_isSo_60 : decode prog_13_method_126_code 60 = .ok (.goto 4, 3) := by decide +kernel
theorem dd_Mo_isSo_63 : decode prog_13_method_126_code 63 = .ok (.iconst 0, 1) := by decide +kernel
theorem dd_Mo_isSo_64 : decode prog_13_method_126_code 64 = .ok (.istore_n 2, 1) := by decide +kernel
theorem dd_Mo_isSo_65 : decode prog_13_method_126_code 65 = .ok (.iinc 3 1, 3) := by decide +kernel
theorem dd_Mo_isSo_68 : decode prog_13_method_126_code 68 = .ok (.goto (-64), 3) := by decide +kernel
theorem dd_Mo_isSo_71 : decode prog_13_method_126_code 71 = .ok (.iload_n 2, 1) := by decide +kernel
theorem dd_Mo_isSo_72 : decode prog_13_method_126_code 72 = .ok (.ireturn, 1) := by decide +kernel
def jx_Mo_isSo (p0 : Option Nat) (p1 : Int32) : sf_M (Int32) :=
  sf_bnd (sf_loop (β := (Int32 × Int32)) (γ := (Int32)) (fun b1 =>
  sf_bnd (sf_gR 11 2 p0) fun x2 =>
  sf_bnd (sf_aI 0 x2 (228 : Int32)) fun x3 =>
  if x3 ≤ b1.2 then (
  sf_ret (.inr b1.1)
  ) else (
  if b1.1 = 0 then (
  sf_bnd (sf_ret (b1.2 + (1 : Int32))) fun y6 =>
  sf_ret (.inl ((0 : Int32), y6))
  ) else (
  sf_bnd (sf_gR 11 41 p0) fun x7 =>
  sf_bnd (sf_gR 11 2 p0) fun x8 =>
  sf_bnd (sf_aI 0 x8 ((213 : Int32) + ((2 : Int32) * b1.2))) fun x9 =>
  sf_bnd (sf_aI 0 x7 (((8 : Int32) * p1) + x9)) fun x10 =>
  sf_bnd (sf_gR 11 2 p0) fun x11 =>
  sf_bnd (sf_aI 0 x11 (((213 : Int32) + ((2 : Int32) * b1.2)) + (1 : Int32))) fun x12 =>
  if x10 = x12 then (
  sf_bnd (sf_ret (b1.2 + (1 : Int32))) fun y14 =>
  sf_ret (.inl ((1 : Int32), y14))
  ) else (
  sf_bnd (sf_ret (b1.2 + (1 : Int32))) fun y15 =>
  sf_ret (.inl ((0 : Int32), y15))
  )
  )
  )
  ) sf_fuel ((1 : Int32), (0 : Int32))) (fun e16 =>
  sf_bnd (sf_rz e16) fun x17 =>
  sf_ret x17
  )
set_option maxRecDepth 20000 in
set_option maxHeartbeats 4000000 in
theorem ok_Mo_isSo (p0 : Option Nat) (p1 : Int32) : sf_Ok ({ cls := "SplitFaresModel", name := "isSo", desc := "(I)Z" } : Jvm.MethodName) prog_13_method_126_code 4 (some .boolean) 0 [sf_rv p0, .int p1] (jx_Mo_isSo p0 p1) (fun r => some (.int r)) := by
  refine sf_Ok.of (env := [some (sf_rv p0), some (.int p1), none, none]) (plainFor_of_name (by decide)) [false, false] (fun G => ⟨pk_r, pk_i, trivial⟩) (Nat.le_of_ble_eq_true rfl) rfl (fun X => ?_)
  unfold jx_Mo_isSo
  refine fp_iconst (v := (1 : Int32)) dd_Mo_isSo_0 (by decide) (fr_pc (pc' := 1) rfl ?_)
  refine fp_istore_n (i := 2) dd_Mo_isSo_1 rfl (Nat.le_of_ble_eq_true rfl) (fun _ => c1_i rfl) (fr_to (pc' := 2) (env' := [some (sf_rv p0), some (.int p1), some (.int (1 : Int32)), none]) (stk' := []) rfl rfl rfl ?_)
  refine fp_iconst (v := (0 : Int32)) dd_Mo_isSo_2 (by decide) (fr_pc (pc' := 3) rfl ?_)
  refine fp_istore_n (i := 3) dd_Mo_isSo_3 rfl (Nat.le_of_ble_eq_true rfl) (fun _ => c1_i rfl) (fr_to (pc' := 4) (env' := [some (sf_rv p0), some (.int p1), some (.int (1 : Int32)), some (.int (0 : Int32))]) (stk' := []) rfl rfl rfl ?_)
  refine fr_to (pc' := 4) (env' := [some (sf_rv p0), some (.int p1), some (.int (1 : Int32)), some (.int (0 : Int32))]) (stk' := []) rfl rfl rfl ?_
  refine fr_bnd (l1 := (fun (e16 : (Int32)) => sf_p 71 [some (sf_rv p0), some (.int p1), some (.int e16), none] [])) (fr_loop (Lb := (fun (b1 : (Int32 × Int32)) => sf_p 4 [some (sf_rv p0), some (.int p1), some (.int b1.1), some (.int b1.2)] [])) (fun b1 => ?_) _ _) (fun e16 => ?_)
  · refine fp_iload_n (i := 3) (x := b1.2) dd_Mo_isSo_4 rfl rfl (fr_pc (pc' := 5) rfl ?_)
    refine fp_aload_n (i := 0) (r := p0) dd_Mo_isSo_5 rfl rfl (fr_pc (pc' := 6) rfl ?_)
    refine fr_gR cl_11 2 (by decide) rfl sw_1074 dd_Mo_isSo_6 (fun x2 => fr_pc (pc' := 9) rfl ?_)
    refine fp_sipush (v := (228 : Int32)) dd_Mo_isSo_9 (by decide) (fr_pc (pc' := 12) rfl ?_)
    refine fr_aI0 dd_Mo_isSo_12 (fun x3 => fr_pc (pc' := 13) rfl ?_)
    refine fr_icmp_ge (tgt := 71) dd_Mo_isSo_13 rfl (fun _ => ?_) (fun _ => ?_)
    · refine fr_wk [true, true, true, false] ?_
      exact fr_ret rfl
    · refine fr_pc (pc' := 16) rfl ?_
      refine fp_iload_n (i := 2) (x := b1.1) dd_Mo_isSo_16 rfl rfl (fr_pc (pc' := 17) rfl ?_)
      refine fr_if_eq (tgt := 63) dd_Mo_isSo_17 rfl (fun _ => ?_) (fun _ => ?_)
      · refine fp_iconst (v := (0 : Int32)) dd_Mo_isSo_63 (by decide) (fr_pc (pc' := 64) rfl ?_)
        refine fp_istore_n (i := 2) dd_Mo_isSo_64 rfl (Nat.le_of_ble_eq_true rfl) (fun _ => c1_i rfl) (fr_to (pc' := 65) (env' := [some (sf_rv p0), some (.int p1), some (.int (0 : Int32)), some (.int b1.2)]) (stk' := []) rfl rfl rfl ?_)
        refine fr_niinc (i := 3) (x := b1.2) (w := (1 : Int32)) dd_Mo_isSo_65 rfl (by decide) (Nat.le_of_ble_eq_true rfl) (fun _ => c1_i rfl) (fun y6 => fr_to (pc' := 68) (env' := [some (sf_rv p0), some (.int p1), some (.int (0 : Int32)), some (.int y6)]) (stk' := []) rfl rfl rfl ?_)
        refine fp_goto (tgt := 4) dd_Mo_isSo_68 rfl ?_
        exact fr_ret rfl
      · refine fr_pc (pc' := 20) rfl ?_
        refine fp_aload_n (i := 0) (r := p0) dd_Mo_isSo_20 rfl rfl (fr_pc (pc' := 21) rfl ?_)
        refine fr_gR cl_11 41 (by decide) rfl sw_1113 dd_Mo_isSo_21 (fun x7 => fr_pc (pc' := 24) rfl ?_)
        refine fp_bipush (v := (8 : Int32)) dd_Mo_isSo_24 (by decide) (fr_pc (pc' := 26) rfl ?_)
        refine fp_iload_n (i := 1) (x := p1) dd_Mo_isSo_26 rfl rfl (fr_pc (pc' := 27) rfl ?_)
        refine fp_imul dd_Mo_isSo_27 (fr_pc (pc' := 28) rfl ?_)
        refine fp_aload_n (i := 0) (r := p0) dd_Mo_isSo_28 rfl rfl (fr_pc (pc' := 29) rfl ?_)
        refine fr_gR cl_11 2 (by decide) rfl sw_1074 dd_Mo_isSo_29 (fun x8 => fr_pc (pc' := 32) rfl ?_)
        refine fp_sipush (v := (213 : Int32)) dd_Mo_isSo_32 (by decide) (fr_pc (pc' := 35) rfl ?_)
        refine fp_iconst (v := (2 : Int32)) dd_Mo_isSo_35 (by decide) (fr_pc (pc' := 36) rfl ?_)
        refine fp_iload_n (i := 3) (x := b1.2) dd_Mo_isSo_36 rfl rfl (fr_pc (pc' := 37) rfl ?_)
        refine fp_imul dd_Mo_isSo_37 (fr_pc (pc' := 38) rfl ?_)
        refine fp_iadd dd_Mo_isSo_38 (fr_pc (pc' := 39) rfl ?_)
        refine fr_aI0 dd_Mo_isSo_39 (fun x9 => fr_pc (pc' := 40) rfl ?_)
        refine fp_iadd dd_Mo_isSo_40 (fr_pc (pc' := 41) rfl ?_)
        refine fr_aI0 dd_Mo_isSo_41 (fun x10 => fr_pc (pc' := 42) rfl ?_)
        refine fp_aload_n (i := 0) (r := p0) dd_Mo_isSo_42 rfl rfl (fr_pc (pc' := 43) rfl ?_)
        refine fr_gR cl_11 2 (by decide) rfl sw_1074 dd_Mo_isSo_43 (fun x11 => fr_pc (pc' := 46) rfl ?_)
        refine fp_sipush (v := (213 : Int32)) dd_Mo_isSo_46 (by decide) (fr_pc (pc' := 49) rfl ?_)
        refine fp_iconst (v := (2 : Int32)) dd_Mo_isSo_49 (by decide) (fr_pc (pc' := 50) rfl ?_)
        refine fp_iload_n (i := 3) (x := b1.2) dd_Mo_isSo_50 rfl rfl (fr_pc (pc' := 51) rfl ?_)
        refine fp_imul dd_Mo_isSo_51 (fr_pc (pc' := 52) rfl ?_)
        refine fp_iadd dd_Mo_isSo_52 (fr_pc (pc' := 53) rfl ?_)
        refine fp_iconst (v := (1 : Int32)) dd_Mo_isSo_53 (by decide) (fr_pc (pc' := 54) rfl ?_)
        refine fp_iadd dd_Mo_isSo_54 (fr_pc (pc' := 55) rfl ?_)
        refine fr_aI0 dd_Mo_isSo_55 (fun x12 => fr_pc (pc' := 56) rfl ?_)
        refine fr_icmp_ne (tgt := 63) dd_Mo_isSo_56 rfl (fun _ => ?_) (fun _ => ?_)
        · refine fr_pc (pc' := 59) rfl ?_
          refine fp_iconst (v := (1 : Int32)) dd_Mo_isSo_59 (by decide) (fr_pc (pc' := 60) rfl ?_)
          refine fp_goto (tgt := 64) dd_Mo_isSo_60 rfl ?_
          refine fp_istore_n (i := 2) dd_Mo_isSo_64 rfl (Nat.le_of_ble_eq_true rfl) (fun _ => c1_i rfl) (fr_to (pc' := 65) (env' := [some (sf_rv p0), some (.int p1), some (.int (1 : Int32)), some (.int b1.2)]) (stk' := []) rfl rfl rfl ?_)
          refine fr_niinc (i := 3) (x := b1.2) (w := (1 : Int32)) dd_Mo_isSo_65 rfl (by decide) (Nat.le_of_ble_eq_true rfl) (fun _ => c1_i rfl) (fun y14 => fr_to (pc' := 68) (env' := [some (sf_rv p0), some (.int p1), some (.int (1 : Int32)), some (.int y14)]) (stk' := []) rfl rfl rfl ?_)
          refine fp_goto (tgt := 4) dd_Mo_isSo_68 rfl ?_
          exact fr_ret rfl
        · refine fp_iconst (v := (0 : Int32)) dd_Mo_isSo_63 (by decide) (fr_pc (pc' := 64) rfl ?_)
          refine fp_istore_n (i := 2) dd_Mo_isSo_64 rfl (Nat.le_of_ble_eq_true rfl) (fun _ => c1_i rfl) (fr_to (pc' := 65) (env' := [some (sf_rv p0), some (.int p1), some (.int (0 : Int32)), some (.int b1.2)]) (stk' := []) rfl rfl rfl ?_)
          refine fr_niinc (i := 3) (x := b1.2) (w := (1 : Int32)) dd_Mo_isSo_65 rfl (by decide) (Nat.le_of_ble_eq_true rfl) (fun _ => c1_i rfl) (fun y15 => fr_to (pc' := 68) (env' := [some (sf_rv p0), some (.int p1), some (.int (0 : Int32)), some (.int y15)]) (stk' := []) rfl rfl rfl ?_)
          refine fp_goto (tgt := 4) dd_Mo_isSo_68 rfl ?_
          exact fr_ret rfl
  · refine fp_iload_n (i := 2) (x := e16) dd_Mo_isSo_71 rfl rfl (fr_pc (pc' := 72) rfl ?_)
    exact fr_zret (r := fun x17 => x17) (fun _ => rfl) rfl dd_Mo_isSo_72
theorem mt_Mo_canBe : sf_Mt ({ cls := "SplitFaresModel", name := "canBe", desc := "()I" } : Jvm.MethodName) prog_13_method_127_code 3 (some .int) 0 := ⟨sw_1708, sw_12, ⟨by decide, by decide, by decide +kernel⟩, by decide⟩
theorem dd_Mo_canBe_0 : decode prog_13_method_127_code 0 = .ok (.aload_n 0, 1) := by decide +kernel
theorem dd_Mo_canBe_1 : decode prog_13_method_127_code 1 = .ok (.invokevirtual 447, 3) := by decide +kernel
theorem dd_Mo_canBe_4 : decode prog_13_method_127_code 4 = .ok (.iconst 0, 1) := by decide +kernel
theorem dd_Mo_canBe_5 : decode prog_13_method_127_code 5 = .ok (.istore_n 1, 1) := by decide +kernel
theorem dd_Mo_canBe_6 : decode prog_13_method_127_code 6 = .ok (.iconst 0, 1) := by decide +kernel
theorem dd_Mo_canBe_7 : decode prog_13_method_127_code 7 = .ok (.istore_n 2, 1) := by decide +kernel
theorem dd_Mo_canBe_8 : decode prog_13_method_127_code 8 = .ok (.iload_n 2, 1) := by decide +kernel
theorem dd_Mo_canBe_9 : decode prog_13_method_127_code 9 = .ok (.aload_n 0, 1) := by decide +kernel
theorem dd_Mo_canBe_10 : decode prog_13_method_127_code 10 = .ok (.getfield 32, 3) := by decide +kernel
theorem dd_Mo_canBe_13 : decode prog_13_method_127_code 13 = .ok (.sipush 227, 3) := by decide +kernel
theorem dd_Mo_canBe_16 : decode prog_13_method_127_code 16 = .ok (.iaload, 1) := by decide +kernel
theorem dd_Mo_canBe_17 : decode prog_13_method_127_code 17 = .ok (.if_icmp .ge 27, 3) := by decide +kernel
theorem dd_Mo_canBe_20 : decode prog_13_method_127_code 20 = .ok (.iload_n 1, 1) := by decide +kernel
theorem dd_Mo_canBe_21 : decode prog_13_method_127_code 21 = .ok (.aload_n 0, 1) := by decide +kernel
theorem dd_Mo_canBe_22 : decode prog_13_method_127_code 22 = .ok (.iload_n 2, 1) := by decide +kernel
theorem dd_Mo_canBe_23 : decode prog_13_method_127_code 23 = .ok (.invokevirtual 450, 3) := by decide +kernel
theorem dd_Mo_canBe_26 : decode prog_13_method_127_code 26 = .ok (.ifCond .eq 9, 3) := by decide +kernel
theorem dd_Mo_canBe_29 : decode prog_13_method_127_code 29 = .ok (.iconst 1, 1) := by decide +kernel
theorem dd_Mo_canBe_30 : decode prog_13_method_127_code 30 = .ok (.iload_n 2, 1) := by decide +kernel
theorem dd_Mo_canBe_31 : decode prog_13_method_127_code 31 = .ok (.ishl, 1) := by decide +kernel
theorem dd_Mo_canBe_32 : decode prog_13_method_127_code 32 = .ok (.goto 4, 3) := by decide +kernel
theorem dd_Mo_canBe_35 : decode prog_13_method_127_code 35 = .ok (.iconst 0, 1) := by decide +kernel
theorem dd_Mo_canBe_36 : decode prog_13_method_127_code 36 = .ok (.ior, 1) := by decide +kernel
theorem dd_Mo_canBe_37 : decode prog_13_method_127_code 37 = .ok (.istore_n 1, 1) := by decide +kernel
theorem dd_Mo_canBe_38 : decode prog_13_method_127_code 38 = .ok (.iinc 2 1, 3) := by decide +kernel
theorem dd_Mo_canBe_41 : decode prog_13_method_127_code 41 = .ok (.goto (-33), 3) := by decide +kernel
theorem dd_Mo_canBe_44 : decode prog_13_method_127_code 44 = .ok (.iload_n 1, 1) := by decide +kernel
theorem dd_Mo_canBe_45 : decode prog_13_method_127_code 45 = .ok (.ireturn, 1) := by decide +kernel
def jx_Mo_canBe (p0 : Option Nat) : sf_M (Int32) :=
  sf_bnd (sf_rc 11 p0 (jx_Mo_laysFares p0)) fun _ =>
  sf_bnd (sf_loop (β := (Int32 × Int32)) (γ := (Int32)) (fun b2 =>
  sf_bnd (sf_gR 11 2 p0) fun x3 =>
  sf_bnd (sf_aI 0 x3 (227 : Int32)) fun x4 =>
  if x4 ≤ b2.2 then (
  sf_ret (.inr b2.1)
  ) else (
  sf_bnd (sf_rc 11 p0 (jx_Mo_isSo p0 b2.2)) fun x6 =>
  if x6 = 0 then (
  sf_bnd (sf_ret ((b2.1 ||| (0 : Int32)))) fun y8 =>
  sf_bnd (sf_ret (b2.2 + (1 : Int32))) fun y9 =>
  sf_ret (.inl (y8, y9))
  ) else (
  sf_bnd (sf_ret ((b2.1 ||| ((1 : Int32) <<< (b2.2 &&& 31))))) fun y10 =>
  sf_bnd (sf_ret (b2.2 + (1 : Int32))) fun y11 =>
  sf_ret (.inl (y10, y11))
  )
  )
  ) sf_fuel ((0 : Int32), (0 : Int32))) (fun e12 =>
  sf_ret e12
  )
set_option maxRecDepth 20000 in
set_option maxHeartbeats 4000000 in
theorem ok_Mo_canBe (p0 : Option Nat) : sf_Ok ({ cls := "SplitFaresModel", name := "canBe", desc := "()I" } : Jvm.MethodName) prog_13_method_127_code 3 (some .int) 210 [sf_rv p0] (jx_Mo_canBe p0) (fun r => some (.int r)) := by
  refine sf_Ok.of (env := [some (sf_rv p0), none, none]) (plainFor_of_name (by decide)) [false] (fun G => ⟨pk_r, trivial⟩) (Nat.le_of_ble_eq_true rfl) rfl (fun X => ?_)
  unfold jx_Mo_canBe
  refine fp_aload_n (i := 0) (r := p0) dd_Mo_canBe_0 rfl rfl (fr_pc (pc' := 1) rfl ?_)
  refine fr_callV (stk := []) (As := []) cl_11 (ok_Mo_laysFares p0) mt_Mo_laysFares rfl rfl sw_1709 sw_1711 sp_98 (by decide) (Nat.le_of_ble_eq_true rfl) dd_Mo_canBe_1 (fun u1 => fr_to (pc' := 4) (env' := [some (sf_rv p0), none, none]) (stk' := []) rfl rfl rfl ?_)
  refine fp_iconst (v := (0 : Int32)) dd_Mo_canBe_4 (by decide) (fr_pc (pc' := 5) rfl ?_)
  refine fp_istore_n (i := 1) dd_Mo_canBe_5 rfl (Nat.le_of_ble_eq_true rfl) (fun _ => c1_r rfl) (fr_to (pc' := 6) (env' := [some (sf_rv p0), some (.int (0 : Int32)), none]) (stk' := []) rfl rfl rfl ?_)
  refine fp_iconst (v := (0 : Int32)) dd_Mo_canBe_6 (by decide) (fr_pc (pc' := 7) rfl ?_)
  refine fp_istore_n (i := 2) dd_Mo_canBe_7 rfl (Nat.le_of_ble_eq_true rfl) (fun _ => c1_i rfl) (fr_to (pc' := 8) (env' := [some (sf_rv p0), some (.int (0 : Int32)), some (.int (0 : Int32))]) (stk' := []) rfl rfl rfl ?_)
  refine fr_to (pc' := 8) (env' := [some (sf_rv p0), some (.int (0 : Int32)), some (.int (0 : Int32))]) (stk' := []) rfl rfl rfl ?_
  refine fr_bnd (l1 := (fun (e12 : (Int32)) => sf_p 44 [some (sf_rv p0), some (.int e12), none] [])) (fr_loop (Lb := (fun (b2 : (Int32 × Int32)) => sf_p 8 [some (sf_rv p0), some (.int b2.1), some (.int b2.2)] [])) (fun b2 => ?_) _ _) (fun e12 => ?_)
  · refine fp_iload_n (i := 2) (x := b2.2) dd_Mo_canBe_8 rfl rfl (fr_pc (pc' := 9) rfl ?_)
    refine fp_aload_n (i := 0) (r := p0) dd_Mo_canBe_9 rfl rfl (fr_pc (pc' := 10) rfl ?_)
    refine fr_gR cl_11 2 (by decide) rfl sw_1074 dd_Mo_canBe_10 (fun x3 => fr_pc (pc' := 13) rfl ?_)
    refine fp_sipush (v := (227 : Int32)) dd_Mo_canBe_13 (by decide) (fr_pc (pc' := 16) rfl ?_)
    refine fr_aI0 dd_Mo_canBe_16 (fun x4 => fr_pc (pc' := 17) rfl ?_)
    refine fr_icmp_ge (tgt := 44) dd_Mo_canBe_17 rfl (fun _ => ?_) (fun _ => ?_)
    · refine fr_wk [true, true, false] ?_
      exact fr_ret rfl
    · refine fr_pc (pc' := 20) rfl ?_
      refine fp_iload_n (i := 1) (x := b2.1) dd_Mo_canBe_20 rfl rfl (fr_pc (pc' := 21) rfl ?_)
      refine fp_aload_n (i := 0) (r := p0) dd_Mo_canBe_21 rfl rfl (fr_pc (pc' := 22) rfl ?_)
      refine fp_iload_n (i := 2) (x := b2.2) dd_Mo_canBe_22 rfl rfl (fr_pc (pc' := 23) rfl ?_)
      refine fr_callV (stk := [.int b2.1]) (As := [.int b2.2]) cl_11 (ok_Mo_isSo p0 b2.2) mt_Mo_isSo rfl rfl sw_1713 sw_1715 sp_99 (by decide) (Nat.le_of_ble_eq_true rfl) dd_Mo_canBe_23 (fun x6 => fr_to (pc' := 26) (env' := [some (sf_rv p0), some (.int b2.1), some (.int b2.2)]) (stk' := [.int x6, .int b2.1]) rfl rfl rfl ?_)
      refine fr_if_eq (tgt := 35) dd_Mo_canBe_26 rfl (fun _ => ?_) (fun _ => ?_)
      · refine fp_iconst (v := (0 : Int32)) dd_Mo_canBe_35 (by decide) (fr_pc (pc' := 36) rfl ?_)
        refine fp_ior dd_Mo_canBe_36 (fr_pc (pc' := 37) rfl ?_)
        refine fr_nistore_n (i := 1) dd_Mo_canBe_37 rfl (Nat.le_of_ble_eq_true rfl) (fun _ => c1_r rfl) (fun y8 => fr_to (pc' := 38) (env' := [some (sf_rv p0), some (.int y8), some (.int b2.2)]) (stk' := []) rfl rfl rfl ?_)
        refine fr_niinc (i := 2) (x := b2.2) (w := (1 : Int32)) dd_Mo_canBe_38 rfl (by decide) (Nat.le_of_ble_eq_true rfl) (fun _ => c1_i rfl) (fun y9 => fr_to (pc' := 41) (env' := [some (sf_rv p0), some (.int y8), some (.int y9)]) (stk' := []) rfl rfl rfl ?_)
        refine fp_goto (tgt := 8) dd_Mo_canBe_41 rfl ?_
        exact fr_ret rfl
      · refine fr_pc (pc' := 29) rfl ?_
        refine fp_iconst (v := (1 : Int32)) dd_Mo_canBe_29 (by decide) (fr_pc (pc' := 30) rfl ?_)
        refine fp_iload_n (i := 2) (x := b2.2) dd_Mo_canBe_30 rfl rfl (fr_pc (pc' := 31) rfl ?_)
        refine fp_ishl dd_Mo_canBe_31 (fr_pc (pc' := 32) rfl ?_)
        refine fp_goto (tgt := 36) dd_Mo_canBe_32 rfl ?_
        refine fp_ior dd_Mo_canBe_36 (fr_pc (pc' := 37) rfl ?_)
        refine fr_nistore_n (i := 1) dd_Mo_canBe_37 rfl (Nat.le_of_ble_eq_true rfl) (fun _ => c1_r rfl) (fun y10 => fr_to (pc' := 38) (env' := [some (sf_rv p0), some (.int y10), some (.int b2.2)]) (stk' := []) rfl rfl rfl ?_)
        refine fr_niinc (i := 2) (x := b2.2) (w := (1 : Int32)) dd_Mo_canBe_38 rfl (by decide) (Nat.le_of_ble_eq_true rfl) (fun _ => c1_i rfl) (fun y11 => fr_to (pc' := 41) (env' := [some (sf_rv p0), some (.int y10), some (.int y11)]) (stk' := []) rfl rfl rfl ?_)
        refine fp_goto (tgt := 8) dd_Mo_canBe_41 rfl ?_
        exact fr_ret rfl
  · refine fp_iload_n (i := 1) (x := e12) dd_Mo_canBe_44 rfl rfl (fr_pc (pc' := 45) rfl ?_)
    exact fr_iret (v := e12) rfl rfl dd_Mo_canBe_45
