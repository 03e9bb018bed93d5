/-! SplitFaresModel: its methods as plain functions, and that the bytecode runs them (printed by program). -/
theorem mt_Mo_mostAlike : sf_Mt ({ cls := "SplitFaresModel", name := "mostAlike", desc := "(II)I" } : Jvm.MethodName) prog_13_method_128_code 7 (some .int) 2 := ⟨sw_1725, sw_12, ⟨by decide, by decide, by decide +kernel⟩, by decide⟩
theorem dd_Mo_mostAlike_0 : decode prog_13_method_128_code 0 = .ok (.iconst 0, 1) := by decide +kernel
theorem dd_Mo_mostAlike_1 : decode prog_13_method_128_code 1 = .ok (.istore_n 3, 1) := by decide +kernel
theorem dd_Mo_mostAlike_2 : decode prog_13_method_128_code 2 = .ok (.iconst 0, 1) := by decide +kernel
theorem dd_Mo_mostAlike_3 : decode prog_13_method_128_code 3 = .ok (.istore 4, 2) := by decide +kernel
theorem dd_Mo_mostAlike_5 : decode prog_13_method_128_code 5 = .ok (.iload 4, 2) := by decide +kernel
theorem dd_Mo_mostAlike_7 : decode prog_13_method_128_code 7 = .ok (.aload_n 0, 1) := by decide +kernel
theorem dd_Mo_mostAlike_8 : decode prog_13_method_128_code 8 = .ok (.getfield 32, 3) := by decide +kernel
theorem dd_Mo_mostAlike_11 : decode prog_13_method_128_code 11 = .ok (.sipush 227, 3) := by decide +kernel
theorem dd_Mo_mostAlike_14 : decode prog_13_method_128_code 14 = .ok (.iaload, 1) := by decide +kernel
theorem dd_Mo_mostAlike_15 : decode prog_13_method_128_code 15 = .ok (.if_icmp .ge 100, 3) := by decide +kernel
theorem dd_Mo_mostAlike_18 : decode prog_13_method_128_code 18 = .ok (.iconst 0, 1) := by decide +kernel
theorem dd_Mo_mostAlike_19 : decode prog_13_method_128_code 19 = .ok (.istore 5, 2) := by decide +kernel
theorem dd_Mo_mostAlike_21 : decode prog_13_method_128_code 21 = .ok (.iconst 0, 1) := by decide +kernel
theorem dd_Mo_mostAlike_22 : decode prog_13_method_128_code 22 = .ok (.istore 6, 2) := by decide +kernel
theorem dd_Mo_mostAlike_24 : decode prog_13_method_128_code 24 = .ok (.iload 6, 2) := by decide +kernel
theorem dd_Mo_mostAlike_26 : decode prog_13_method_128_code 26 = .ok (.aload_n 0, 1) := by decide +kernel
theorem dd_Mo_mostAlike_27 : decode prog_13_method_128_code 27 = .ok (.getfield 32, 3) := by decide +kernel
theorem dd_Mo_mostAlike_30 : decode prog_13_method_128_code 30 = .ok (.sipush 227, 3) := by decide +kernel
theorem dd_Mo_mostAlike_33 : decode prog_13_method_128_code 33 = .ok (.iaload, 1) := by decide +kernel
theorem dd_Mo_mostAlike_34 : decode prog_13_method_128_code 34 = .ok (.if_icmp .ge 55, 3) := by decide +kernel
theorem dd_Mo_mostAlike_37 : decode prog_13_method_128_code 37 = .ok (.iload 5, 2) := by decide +kernel
theorem dd_Mo_mostAlike_39 : decode prog_13_method_128_code 39 = .ok (.iload_n 1, 1) := by decide +kernel
theorem dd_Mo_mostAlike_40 : decode prog_13_method_128_code 40 = .ok (.iload 6, 2) := by decide +kernel
theorem dd_Mo_mostAlike_42 : decode prog_13_method_128_code 42 = .ok (.invokestatic 342, 3) := by decide +kernel
theorem dd_Mo_mostAlike_45 : decode prog_13_method_128_code 45 = .ok (.ifCond .eq 34, 3) := by decide +kernel
theorem dd_Mo_mostAlike_48 : decode prog_13_method_128_code 48 = .ok (.aload_n 0, 1) := by decide +kernel
theorem dd_Mo_mostAlike_49 : decode prog_13_method_128_code 49 = .ok (.getfield 100, 3) := by decide +kernel
theorem dd_Mo_mostAlike_52 : decode prog_13_method_128_code 52 = .ok (.bipush 8, 2) := by decide +kernel
theorem dd_Mo_mostAlike_54 : decode prog_13_method_128_code 54 = .ok (.iload 4, 2) := by decide +kernel
theorem dd_Mo_mostAlike_56 : decode prog_13_method_128_code 56 = .ok (.imul, 1) := by decide +kernel
theorem dd_Mo_mostAlike_57 : decode prog_13_method_128_code 57 = .ok (.iload_n 2, 1) := by decide +kernel
theorem dd_Mo_mostAlike_58 : decode prog_13_method_128_code 58 = .ok (.iadd, 1) := by decide +kernel
theorem dd_Mo_mostAlike_59 : decode prog_13_method_128_code 59 = .ok (.iaload, 1) := by decide +kernel
theorem dd_Mo_mostAlike_60 : decode prog_13_method_128_code 60 = .ok (.aload_n 0, 1) := by decide +kernel
theorem dd_Mo_mostAlike_61 : decode prog_13_method_128_code 61 = .ok (.getfield 100, 3) := by decide +kernel
theorem dd_Mo_mostAlike_64 : decode prog_13_method_128_code 64 = .ok (.bipush 8, 2) := by decide +kernel
theorem dd_Mo_mostAlike_66 : decode prog_13_method_128_code 66 = .ok (.iload 6, 2) := by decide +kernel
theorem dd_Mo_mostAlike_68 : decode prog_13_method_128_code 68 = .ok (.imul, 1) := by decide +kernel
theorem dd_Mo_mostAlike_69 : decode prog_13_method_128_code 69 = .ok (.iload_n 2, 1) := by decide +kernel
theorem dd_Mo_mostAlike_70 : decode prog_13_method_128_code 70 = .ok (.iadd, 1) := by decide +kernel
theorem dd_Mo_mostAlike_71 : decode prog_13_method_128_code 71 = .ok (.iaload, 1) := by decide +kernel
theorem dd_Mo_mostAlike_72 : decode prog_13_method_128_code 72 = .ok (.if_icmp .ne 7, 3) := by decide +kernel
theorem dd_Mo_mostAlike_75 : decode prog_13_method_128_code 75 = .ok (.iconst 1, 1) := by decide +kernel
theorem dd_Mo_mostAlike_76 : decode prog_13_method_128_code 76 = .ok (.goto 4, 3) := by decide +kernel
theorem dd_Mo_mostAlike_79 : decode prog_13_method_128_code 79 = .ok (.iconst 0, 1) := by decide +kernel
theorem dd_Mo_mostAlike_80 : decode prog_13_method_128_code 80 = .ok (.iadd, 1) := by decide +kernel
theorem dd_Mo_mostAlike_81 : decode prog_13_method_128_code 81 = .ok (.istore 5, 2) := by decide +kernel
theorem dd_Mo_mostAlike_83 : decode prog_13_method_128_code 83 = .ok (.iinc 6 1, 3) := by decide +kernel
theorem dd_Mo_mostAlike_86 : decode prog_13_method_128_code 86 = .ok (.goto (-62), 3) := by decide +kernel
theorem dd_Mo_mostAlike_89 : decode prog_13_method_128_code 89 = .ok (.iload_n 1, 1) := by decide +kernel
theorem dd_Mo_mostAlike_90 : decode prog_13_method_128_code 90 = .ok (.iload 4, 2) := by decide +kernel
theorem dd_Mo_mostAlike_92 : decode prog_13_method_128_code 92 = .ok (.invokestatic 342, 3) := by decide +kernel
theorem dd_Mo_mostAlike_95 : decode prog_13_method_128_code 95 = .ok (.ifCond .eq 12, 3) := by decide +kernel
theorem dd_Mo_mostAlike_98 : decode prog_13_method_128_code 98 = .ok (.iload_n 3, 1) := by decide +kernel
theorem dd_Mo_mostAlike_99 : decode prog_13_method_128_code 99 = .ok (.iload 5, 2) := by decide +kernel
theorem dd_Mo_mostAlike_101 : decode prog_13_method_128_code 101 = .ok (.invokestatic 388, 3) := by decide +kernel
theorem dd_Mo_mostAlike_104 : decode prog_13_method_128_code 104 = .ok (.goto 4, 3) := by decide +kernel
theorem dd_Mo_mostAlike_107 : decode prog_13_method_128_code 107 = .ok (.iload_n 3, 1) := by decide +kernel
theorem dd_Mo_mostAlike_108 : decode prog_13_method_128_code 108 = .ok (.istore_n 3, 1) := by decide +kernel
theorem dd_Mo_mostAlike_109 : decode prog_13_method_128_code 109 = .ok (.iinc 4 1, 3) := by decide +kernel
theorem dd_Mo_mostAlike_112 : decode prog_13_method_128_code 112 = .ok (.goto (-107), 3) := by decide +kernel
theorem dd_Mo_mostAlike_115 : decode prog_13_method_128_code 115 = .ok (.iload_n 3, 1) := by decide +kernel
theorem dd_Mo_mostAlike_116 : decode prog_13_method_128_code 116 = .ok (.ireturn, 1) := by decide +kernel
def jx_Mo_mostAlike (p0 : Option Nat) (p1 : Int32) (p2 : Int32) : sf_M (Int32) :=
  sf_bnd (sf_loop (β := (Int32 × Int32)) (γ := (Int32)) (fun b1 =>
  sf_bnd (sf_gR 11 2 p0) fun x2 =>
  sf_bnd (sf_aI 0 x2 (227 : Int32)) fun x3 =>
  if x3 ≤ b1.2 then (
  sf_ret (.inr b1.1)
  ) else (
  sf_bnd (sf_loop (β := (Int32 × Int32)) (γ := (Int32)) (fun b5 =>
  sf_bnd (sf_gR 11 2 p0) fun x6 =>
  sf_bnd (sf_aI 0 x6 (227 : Int32)) fun x7 =>
  if x7 ≤ b5.2 then (
  sf_ret (.inr b5.1)
  ) else (
  sf_bnd (jx_Mo_isIn p1 b5.2) fun x9 =>
  if x9 = 0 then (
  sf_bnd (sf_ret ((b5.1 + (0 : Int32)))) fun y11 =>
  sf_bnd (sf_ret (b5.2 + (1 : Int32))) fun y12 =>
  sf_ret (.inl (y11, y12))
  ) else (
  sf_bnd (sf_gR 11 41 p0) fun x13 =>
  sf_bnd (sf_aI 0 x13 (((8 : Int32) * b1.2) + p2)) fun x14 =>
  sf_bnd (sf_gR 11 41 p0) fun x15 =>
  sf_bnd (sf_aI 0 x15 (((8 : Int32) * b5.2) + p2)) fun x16 =>
  if x14 = x16 then (
  sf_bnd (sf_ret ((b5.1 + (1 : Int32)))) fun y18 =>
  sf_bnd (sf_ret (b5.2 + (1 : Int32))) fun y19 =>
  sf_ret (.inl (y18, y19))
  ) else (
  sf_bnd (sf_ret ((b5.1 + (0 : Int32)))) fun y20 =>
  sf_bnd (sf_ret (b5.2 + (1 : Int32))) fun y21 =>
  sf_ret (.inl (y20, y21))
  )
  )
  )
  ) sf_fuel ((0 : Int32), (0 : Int32))) (fun e22 =>
  sf_bnd (jx_Mo_isIn p1 b1.2) fun x23 =>
  if x23 = 0 then (
  sf_bnd (sf_ret (b1.2 + (1 : Int32))) fun y25 =>
  sf_ret (.inl (b1.1, y25))
  ) else (
  sf_bnd (jx_Mo_greater b1.1 e22) fun x26 =>
  sf_bnd (sf_ret (b1.2 + (1 : Int32))) fun y27 =>
  sf_ret (.inl (x26, y27))
  )
  )
  )
  ) sf_fuel ((0 : Int32), (0 : Int32))) (fun e28 =>
  sf_ret e28
  )
set_option maxRecDepth 20000 in
set_option maxHeartbeats 4000000 in
theorem ok_Mo_mostAlike (p0 : Option Nat) (p1 : Int32) (p2 : Int32) : sf_Ok ({ cls := "SplitFaresModel", name := "mostAlike", desc := "(II)I" } : Jvm.MethodName) prog_13_method_128_code 7 (some .int) 1 [sf_rv p0, .int p1, .int p2] (jx_Mo_mostAlike p0 p1 p2) (fun r => some (.int r)) := by
  refine sf_Ok.of (env := [some (sf_rv p0), some (.int p1), some (.int p2), none, none, none, none]) (plainFor_of_name (by decide)) [false, false, false] (fun G => ⟨pk_r, pk_i, pk_i, trivial⟩) (Nat.le_of_ble_eq_true rfl) rfl (fun X => ?_)
  unfold jx_Mo_mostAlike
  refine fp_iconst (v := (0 : Int32)) dd_Mo_mostAlike_0 (by decide) (fr_pc (pc' := 1) rfl ?_)
  refine fp_istore_n (i := 3) dd_Mo_mostAlike_1 rfl (Nat.le_of_ble_eq_true rfl) (fun _ => c1_i rfl) (fr_to (pc' := 2) (env' := [some (sf_rv p0), some (.int p1), some (.int p2), some (.int (0 : Int32)), none, none, none]) (stk' := []) rfl rfl rfl ?_)
  refine fp_iconst (v := (0 : Int32)) dd_Mo_mostAlike_2 (by decide) (fr_pc (pc' := 3) rfl ?_)
  refine fp_istore (i := 4) dd_Mo_mostAlike_3 (Nat.le_of_ble_eq_true rfl) (fun _ => c1_i rfl) (fr_to (pc' := 5) (env' := [some (sf_rv p0), some (.int p1), some (.int p2), some (.int (0 : Int32)), some (.int (0 : Int32)), none, none]) (stk' := []) rfl rfl rfl ?_)
  refine fr_to (pc' := 5) (env' := [some (sf_rv p0), some (.int p1), some (.int p2), some (.int (0 : Int32)), some (.int (0 : Int32)), none, none]) (stk' := []) rfl rfl rfl ?_
  refine fr_bnd (l1 := (fun (e28 : (Int32)) => sf_p 115 [some (sf_rv p0), some (.int p1), some (.int p2), some (.int e28), none, none, none] [])) (fr_loop (Lb := (fun (b1 : (Int32 × Int32)) => sf_p 5 [some (sf_rv p0), some (.int p1), some (.int p2), some (.int b1.1), some (.int b1.2), none, none] [])) (fun b1 => ?_) _ _) (fun e28 => ?_)
  · refine fp_iload (i := 4) (x := b1.2) dd_Mo_mostAlike_5 rfl (fr_pc (pc' := 7) rfl ?_)
    refine fp_aload_n (i := 0) (r := p0) dd_Mo_mostAlike_7 rfl rfl (fr_pc (pc' := 8) rfl ?_)
    refine fr_gR cl_11 2 (by decide) rfl sw_1074 dd_Mo_mostAlike_8 (fun x2 => fr_pc (pc' := 11) rfl ?_)
    refine fp_sipush (v := (227 : Int32)) dd_Mo_mostAlike_11 (by decide) (fr_pc (pc' := 14) rfl ?_)
    refine fr_aI0 dd_Mo_mostAlike_14 (fun x3 => fr_pc (pc' := 15) rfl ?_)
    refine fr_icmp_ge (tgt := 115) dd_Mo_mostAlike_15 rfl (fun _ => ?_) (fun _ => ?_)
    · refine fr_wk [true, true, true, true, false, false, false] ?_
      exact fr_ret rfl
    · refine fr_pc (pc' := 18) rfl ?_
      refine fp_iconst (v := (0 : Int32)) dd_Mo_mostAlike_18 (by decide) (fr_pc (pc' := 19) rfl ?_)
      refine fp_istore (i := 5) dd_Mo_mostAlike_19 (Nat.le_of_ble_eq_true rfl) (fun _ => c1_i rfl) (fr_to (pc' := 21) (env' := [some (sf_rv p0), some (.int p1), some (.int p2), some (.int b1.1), some (.int b1.2), some (.int (0 : Int32)), none]) (stk' := []) rfl rfl rfl ?_)
      refine fp_iconst (v := (0 : Int32)) dd_Mo_mostAlike_21 (by decide) (fr_pc (pc' := 22) rfl ?_)
      refine fp_istore (i := 6) dd_Mo_mostAlike_22 (Nat.le_of_ble_eq_true rfl) (fun _ => c1_i rfl) (fr_to (pc' := 24) (env' := [some (sf_rv p0), some (.int p1), some (.int p2), some (.int b1.1), some (.int b1.2), some (.int (0 : Int32)), some (.int (0 : Int32))]) (stk' := []) rfl rfl rfl ?_)
      refine fr_to (pc' := 24) (env' := [some (sf_rv p0), some (.int p1), some (.int p2), some (.int b1.1), some (.int b1.2), some (.int (0 : Int32)), some (.int (0 : Int32))]) (stk' := []) rfl rfl rfl ?_
      refine fr_bnd (l1 := (fun (e22 : (Int32)) => sf_p 89 [some (sf_rv p0), some (.int p1), some (.int p2), some (.int b1.1), some (.int b1.2), some (.int e22), none] [])) (fr_loop (Lb := (fun (b5 : (Int32 × Int32)) => sf_p 24 [some (sf_rv p0), some (.int p1), some (.int p2), some (.int b1.1), some (.int b1.2), some (.int b5.1), some (.int b5.2)] [])) (fun b5 => ?_) _ _) (fun e22 => ?_)
      · refine fp_iload (i := 6) (x := b5.2) dd_Mo_mostAlike_24 rfl (fr_pc (pc' := 26) rfl ?_)
        refine fp_aload_n (i := 0) (r := p0) dd_Mo_mostAlike_26 rfl rfl (fr_pc (pc' := 27) rfl ?_)
        refine fr_gR cl_11 2 (by decide) rfl sw_1074 dd_Mo_mostAlike_27 (fun x6 => fr_pc (pc' := 30) rfl ?_)
        refine fp_sipush (v := (227 : Int32)) dd_Mo_mostAlike_30 (by decide) (fr_pc (pc' := 33) rfl ?_)
        refine fr_aI0 dd_Mo_mostAlike_33 (fun x7 => fr_pc (pc' := 34) rfl ?_)
        refine fr_icmp_ge (tgt := 89) dd_Mo_mostAlike_34 rfl (fun _ => ?_) (fun _ => ?_)
        · refine fr_wk [true, true, true, true, true, true, false] ?_
          exact fr_ret rfl
        · refine fr_pc (pc' := 37) rfl ?_
          refine fp_iload (i := 5) (x := b5.1) dd_Mo_mostAlike_37 rfl (fr_pc (pc' := 39) rfl ?_)
          refine fp_iload_n (i := 1) (x := p1) dd_Mo_mostAlike_39 rfl rfl (fr_pc (pc' := 40) rfl ?_)
          refine fp_iload (i := 6) (x := b5.2) dd_Mo_mostAlike_40 rfl (fr_pc (pc' := 42) rfl ?_)
          refine fr_callS (stk := [.int b5.1]) (ok_Mo_isIn p1 b5.2) mt_Mo_isIn rfl rfl sw_1520 sw_1521 (by decide) (Nat.le_of_ble_eq_true rfl) dd_Mo_mostAlike_42 (fun x9 => fr_to (pc' := 45) (env' := [some (sf_rv p0), some (.int p1), some (.int p2), some (.int b1.1), some (.int b1.2), some (.int b5.1), some (.int b5.2)]) (stk' := [.int x9, .int b5.1]) rfl rfl rfl ?_)
          refine fr_if_eq (tgt := 79) dd_Mo_mostAlike_45 rfl (fun _ => ?_) (fun _ => ?_)
          · refine fp_iconst (v := (0 : Int32)) dd_Mo_mostAlike_79 (by decide) (fr_pc (pc' := 80) rfl ?_)
            refine fp_iadd dd_Mo_mostAlike_80 (fr_pc (pc' := 81) rfl ?_)
            refine fr_nistore (i := 5) dd_Mo_mostAlike_81 (Nat.le_of_ble_eq_true rfl) (fun _ => c1_i rfl) (fun y11 => fr_to (pc' := 83) (env' := [some (sf_rv p0), some (.int p1), some (.int p2), some (.int b1.1), some (.int b1.2), some (.int y11), some (.int b5.2)]) (stk' := []) rfl rfl rfl ?_)
            refine fr_niinc (i := 6) (x := b5.2) (w := (1 : Int32)) dd_Mo_mostAlike_83 rfl (by decide) (Nat.le_of_ble_eq_true rfl) (fun _ => c1_i rfl) (fun y12 => fr_to (pc' := 86) (env' := [some (sf_rv p0), some (.int p1), some (.int p2), some (.int b1.1), some (.int b1.2), some (.int y11), some (.int y12)]) (stk' := []) rfl rfl rfl ?_)
            refine fp_goto (tgt := 24) dd_Mo_mostAlike_86 rfl ?_
            exact fr_ret rfl
          · refine fr_pc (pc' := 48) rfl ?_
            refine fp_aload_n (i := 0) (r := p0) dd_Mo_mostAlike_48 rfl rfl (fr_pc (pc' := 49) rfl ?_)
            refine fr_gR cl_11 41 (by decide) rfl sw_1113 dd_Mo_mostAlike_49 (fun x13 => fr_pc (pc' := 52) rfl ?_)
            refine fp_bipush (v := (8 : Int32)) dd_Mo_mostAlike_52 (by decide) (fr_pc (pc' := 54) rfl ?_)
            refine fp_iload (i := 4) (x := b1.2) dd_Mo_mostAlike_54 rfl (fr_pc (pc' := 56) rfl ?_)
            refine fp_imul dd_Mo_mostAlike_56 (fr_pc (pc' := 57) rfl ?_)
            refine fp_iload_n (i := 2) (x := p2) dd_Mo_mostAlike_57 rfl rfl (fr_pc (pc' := 58) rfl ?_)
            refine fp_iadd dd_Mo_mostAlike_58 (fr_pc (pc' := 59) rfl ?_)
            refine fr_aI0 dd_Mo_mostAlike_59 (fun x14 => fr_pc (pc' := 60) rfl ?_)
            refine fp_aload_n (i := 0) (r := p0) dd_Mo_mostAlike_60 rfl rfl (fr_pc (pc' := 61) rfl ?_)
            refine fr_gR cl_11 41 (by decide) rfl sw_1113 dd_Mo_mostAlike_61 (fun x15 => fr_pc (pc' := 64) rfl ?_)
            refine fp_bipush (v := (8 : Int32)) dd_Mo_mostAlike_64 (by decide) (fr_pc (pc' := 66) rfl ?_)
            refine fp_iload (i := 6) (x := b5.2) dd_Mo_mostAlike_66 rfl (fr_pc (pc' := 68) rfl ?_)
            refine fp_imul dd_Mo_mostAlike_68 (fr_pc (pc' := 69) rfl ?_)
            refine fp_iload_n (i := 2) (x := p2) dd_Mo_mostAlike_69 rfl rfl (fr_pc (pc' := 70) rfl ?_)
            refine fp_iadd dd_Mo_mostAlike_70 (fr_pc (pc' := 71) rfl ?_)
            refine fr_aI0 dd_Mo_mostAlike_71 (fun x16 => fr_pc (pc' := 72) rfl ?_)
            refine fr_icmp_ne (tgt := 79) dd_Mo_mostAlike_72 rfl (fun _ => ?_) (fun _ => ?_)
            · refine fr_pc (pc' := 75) rfl ?_
              refine fp_iconst (v := (1 : Int32)) dd_Mo_mostAlike_75 (by decide) (fr_pc (pc' := 76) rfl ?_)
              refine fp_goto (tgt := 80) dd_Mo_mostAlike_76 rfl ?_
              refine fp_iadd dd_Mo_mostAlike_80 (fr_pc (pc' := 81) rfl ?_)
              refine fr_nistore (i := 5) dd_Mo_mostAlike_81 (Nat.le_of_ble_eq_true rfl) (fun _ => c1_i rfl) (fun y18 => fr_to (pc' := 83) (env' := [some (sf_rv p0), some (.int p1), some (.int p2), some (.int b1.1), some (.int b1.2), some (.int y18), some (.int b5.2)]) (stk' := []) rfl rfl rfl ?_)
              refine fr_niinc (i := 6) (x := b5.2) (w := (1 : Int32)) dd_Mo_mostAlike_83 rfl (by decide) (Nat.le_of_ble_eq_true rfl) (fun _ => c1_i rfl) (fun y19 => fr_to (pc' := 86) (env' := [some (sf_rv p0), some (.int p1), some (.int p2), some (.int b1.1), some (.int b1.2), some (.int y18), some (.int y19)]) (stk' := []) rfl rfl rfl ?_)
              refine fp_goto (tgt := 24) dd_Mo_mostAlike_86 rfl ?_
              exact fr_ret rfl
            · refine fp_iconst (v := (0 : Int32)) dd_Mo_mostAlike_79 (by decide) (fr_pc (pc' := 80) rfl ?_)
              refine fp_iadd dd_Mo_mostAlike_80 (fr_pc (pc' := 81) rfl ?_)
              refine fr_nistore (i := 5) dd_Mo_mostAlike_81 (Nat.le_of_ble_eq_true rfl) (fun _ => c1_i rfl) (fun y20 => fr_to (pc' := 83) (env' := [some (sf_rv p0), some (.int p1), some (.int p2), some (.int b1.1), some (.int b1.2), some (.int y20), some (.int b5.2)]) (stk' := []) rfl rfl rfl ?_)
              refine fr_niinc (i := 6) (x := b5.2) (w := (1 : Int32)) dd_Mo_mostAlike_83 rfl (by decide) (Nat.le_of_ble_eq_true rfl) (fun _ => c1_i rfl) (fun y21 => fr_to (pc' := 86) (env' := [some (sf_rv p0), some (.int p1), some (.int p2), some (.int b1.1), some (.int b1.2), some (.int y20), some (.int y21)]) (stk' := []) rfl rfl rfl ?_)
              refine fp_goto (tgt := 24) dd_Mo_mostAlike_86 rfl ?_
              exact fr_ret rfl
      · refine fp_iload_n (i := 1) (x := p1) dd_Mo_mostAlike_89 rfl rfl (fr_pc (pc' := 90) rfl ?_)
        refine fp_iload (i := 4) (x := b1.2) dd_Mo_mostAlike_90 rfl (fr_pc (pc' := 92) rfl ?_)
        refine fr_callS (stk := []) (ok_Mo_isIn p1 b1.2) mt_Mo_isIn rfl rfl sw_1520 sw_1521 (by decide) (Nat.le_of_ble_eq_true rfl) dd_Mo_mostAlike_92 (fun x23 => fr_to (pc' := 95) (env' := [some (sf_rv p0), some (.int p1), some (.int p2), some (.int b1.1), some (.int b1.2), some (.int e22), none]) (stk' := [.int x23]) rfl rfl rfl ?_)
        refine fr_if_eq (tgt := 107) dd_Mo_mostAlike_95 rfl (fun _ => ?_) (fun _ => ?_)
        · refine fp_iload_n (i := 3) (x := b1.1) dd_Mo_mostAlike_107 rfl rfl (fr_pc (pc' := 108) rfl ?_)
          refine fp_istore_n (i := 3) dd_Mo_mostAlike_108 rfl (Nat.le_of_ble_eq_true rfl) (fun _ => c1_i rfl) (fr_to (pc' := 109) (env' := [some (sf_rv p0), some (.int p1), some (.int p2), some (.int b1.1), some (.int b1.2), some (.int e22), none]) (stk' := []) rfl rfl rfl ?_)
          refine fr_niinc (i := 4) (x := b1.2) (w := (1 : Int32)) dd_Mo_mostAlike_109 rfl (by decide) (Nat.le_of_ble_eq_true rfl) (fun _ => c1_i rfl) (fun y25 => fr_to (pc' := 112) (env' := [some (sf_rv p0), some (.int p1), some (.int p2), some (.int b1.1), some (.int y25), some (.int e22), none]) (stk' := []) rfl rfl rfl ?_)
          refine fp_goto (tgt := 5) dd_Mo_mostAlike_112 rfl ?_
          refine fr_wk [true, true, true, true, true, false, false] ?_
          exact fr_ret rfl
        · refine fr_pc (pc' := 98) rfl ?_
          refine fp_iload_n (i := 3) (x := b1.1) dd_Mo_mostAlike_98 rfl rfl (fr_pc (pc' := 99) rfl ?_)
          refine fp_iload (i := 5) (x := e22) dd_Mo_mostAlike_99 rfl (fr_pc (pc' := 101) rfl ?_)
          refine fr_callS (stk := []) (ok_Mo_greater b1.1 e22) mt_Mo_greater rfl rfl sw_1582 sw_1583 (by decide) (Nat.le_of_ble_eq_true rfl) dd_Mo_mostAlike_101 (fun x26 => fr_to (pc' := 104) (env' := [some (sf_rv p0), some (.int p1), some (.int p2), some (.int b1.1), some (.int b1.2), some (.int e22), none]) (stk' := [.int x26]) rfl rfl rfl ?_)
          refine fp_goto (tgt := 108) dd_Mo_mostAlike_104 rfl ?_
          refine fp_istore_n (i := 3) dd_Mo_mostAlike_108 rfl (Nat.le_of_ble_eq_true rfl) (fun _ => c1_i rfl) (fr_to (pc' := 109) (env' := [some (sf_rv p0), some (.int p1), some (.int p2), some (.int x26), some (.int b1.2), some (.int e22), none]) (stk' := []) rfl rfl rfl ?_)
          refine fr_niinc (i := 4) (x := b1.2) (w := (1 : Int32)) dd_Mo_mostAlike_109 rfl (by decide) (Nat.le_of_ble_eq_true rfl) (fun _ => c1_i rfl) (fun y27 => fr_to (pc' := 112) (env' := [some (sf_rv p0), some (.int p1), some (.int p2), some (.int x26), some (.int y27), some (.int e22), none]) (stk' := []) rfl rfl rfl ?_)
          refine fp_goto (tgt := 5) dd_Mo_mostAlike_112 rfl ?_
          refine fr_wk [true, true, true, true, true, false, false] ?_
          exact fr_ret rfl
  · refine fp_iload_n (i := 3) (x := e28) dd_Mo_mostAlike_115 rfl rfl (fr_pc (pc' := 116) rfl ?_)
    exact fr_iret (v := e28) rfl rfl dd_Mo_mostAlike_116
theorem mt_Mo_ask : sf_Mt ({ cls := "SplitFaresModel", name := "ask", desc := "(I)I" } : Jvm.MethodName) prog_13_method_129_code 7 (some .int) 1 := ⟨sw_1720, sw_12, ⟨by decide, by decide, by decide +kernel⟩, by decide⟩
theorem dd_Mo_ask_0 : decode prog_13_method_129_code 0 = .ok (.iload_n 1, 1) := by decide +kernel
theorem dd_Mo_ask_1 : decode prog_13_method_129_code 1 = .ok (.iconst 0, 1) := by decide +kernel
theorem dd_Mo_ask_2 : decode prog_13_method_129_code 2 = .ok (.iconst 1, 1) := by decide +kernel
theorem dd_Mo_ask_3 : decode prog_13_method_129_code 3 = .ok (.invokestatic 18, 3) := by decide +kernel
theorem dd_Mo_ask_6 : decode prog_13_method_129_code 6 = .ok (.ifCond .ne 5, 3) := by decide +kernel
theorem dd_Mo_ask_9 : decode prog_13_method_129_code 9 = .ok (.iconst (-1), 1) := by decide +kernel
theorem dd_Mo_ask_10 : decode prog_13_method_129_code 10 = .ok (.ireturn, 1) := by decide +kernel
theorem dd_Mo_ask_11 : decode prog_13_method_129_code 11 = .ok (.aload_n 0, 1) := by decide +kernel
theorem dd_Mo_ask_12 : decode prog_13_method_129_code 12 = .ok (.invokevirtual 453, 3) := by decide +kernel
theorem dd_Mo_ask_15 : decode prog_13_method_129_code 15 = .ok (.istore_n 2, 1) := by decide +kernel
theorem dd_Mo_ask_16 : decode prog_13_method_129_code 16 = .ok (.iconst (-1), 1) := by decide +kernel
theorem dd_Mo_ask_17 : decode prog_13_method_129_code 17 = .ok (.istore_n 3, 1) := by decide +kernel
theorem dd_Mo_ask_18 : decode prog_13_method_129_code 18 = .ok (.ldc_w 348, 3) := by decide +kernel
theorem dd_Mo_ask_21 : decode prog_13_method_129_code 21 = .ok (.istore 4, 2) := by decide +kernel
theorem dd_Mo_ask_23 : decode prog_13_method_129_code 23 = .ok (.iconst 0, 1) := by decide +kernel
theorem dd_Mo_ask_24 : decode prog_13_method_129_code 24 = .ok (.istore 5, 2) := by decide +kernel
theorem dd_Mo_ask_26 : decode prog_13_method_129_code 26 = .ok (.iload 5, 2) := by decide +kernel
theorem dd_Mo_ask_28 : decode prog_13_method_129_code 28 = .ok (.bipush 8, 2) := by decide +kernel
theorem dd_Mo_ask_30 : decode prog_13_method_129_code 30 = .ok (.if_icmp .ge 39, 3) := by decide +kernel
theorem dd_Mo_ask_33 : decode prog_13_method_129_code 33 = .ok (.iload_n 2, 1) := by decide +kernel
theorem dd_Mo_ask_34 : decode prog_13_method_129_code 34 = .ok (.ifCond .eq 35, 3) := by decide +kernel
theorem dd_Mo_ask_37 : decode prog_13_method_129_code 37 = .ok (.aload_n 0, 1) := by decide +kernel
theorem dd_Mo_ask_38 : decode prog_13_method_129_code 38 = .ok (.iload_n 2, 1) := by decide +kernel
theorem dd_Mo_ask_39 : decode prog_13_method_129_code 39 = .ok (.iload 5, 2) := by decide +kernel
theorem dd_Mo_ask_41 : decode prog_13_method_129_code 41 = .ok (.invokevirtual 456, 3) := by decide +kernel
theorem dd_Mo_ask_44 : decode prog_13_method_129_code 44 = .ok (.istore 6, 2) := by decide +kernel
theorem dd_Mo_ask_46 : decode prog_13_method_129_code 46 = .ok (.iload 6, 2) := by decide +kernel
theorem dd_Mo_ask_48 : decode prog_13_method_129_code 48 = .ok (.iload 4, 2) := by decide +kernel
theorem dd_Mo_ask_50 : decode prog_13_method_129_code 50 = .ok (.if_icmp .lt 6, 3) := by decide +kernel
theorem dd_Mo_ask_53 : decode prog_13_method_129_code 53 = .ok (.goto 10, 3) := by decide +kernel
theorem dd_Mo_ask_56 : decode prog_13_method_129_code 56 = .ok (.iload 6, 2) := by decide +kernel
theorem dd_Mo_ask_58 : decode prog_13_method_129_code 58 = .ok (.istore 4, 2) := by decide +kernel
theorem dd_Mo_ask_60 : decode prog_13_method_129_code 60 = .ok (.iload 5, 2) := by decide +kernel
theorem dd_Mo_ask_62 : decode prog_13_method_129_code 62 = .ok (.istore_n 3, 1) := by decide +kernel
theorem dd_Mo_ask_63 : decode prog_13_method_129_code 63 = .ok (.iinc 5 1, 3) := by decide +kernel
theorem dd_Mo_ask_66 : decode prog_13_method_129_code 66 = .ok (.goto (-40), 3) := by decide +kernel
theorem dd_Mo_ask_69 : decode prog_13_method_129_code 69 = .ok (.iload_n 3, 1) := by decide +kernel
theorem dd_Mo_ask_70 : decode prog_13_method_129_code 70 = .ok (.iconst (-1), 1) := by decide +kernel
theorem dd_Mo_ask_71 : decode prog_13_method_129_code 71 = .ok (.if_icmp .eq 7, 3) := by decide +kernel
theorem dd_Mo_ask_74 : decode prog_13_method_129_code 74 = .ok (.iload_n 1, 1) := by decide +kernel
theorem dd_Mo_ask_75 : decode prog_13_method_129_code 75 = .ok (.ifCond .ne 7, 3) := by decide +kernel
theorem dd_Mo_ask_82 : decode prog_13_method_129_code 82 = .ok (.iload 4, 2) := by decide +kernel
theorem dd_Mo_ask_78 : decode prog_13_method_129_code 78 = .ok (.iload_n 3, 1) := by decide +kernel
theorem dd_Mo_ask_79 : decode prog_13_method_129_code 79 = .ok (.goto 5, 3) := by decide +kernel
theorem dd_Mo_ask_84 : decode prog_13_method_129_code 84 = .ok (.ireturn, 1) := by decide +kernel
def jx_Mo_ask (p0 : Option Nat) (p1 : Int32) : sf_M (Int32) :=
  sf_bnd (jx_Mo_lies p1 (0 : Int32) (1 : Int32)) fun x1 =>
  if x1 = 0 then (
  sf_ret (-1 : Int32)
  ) else (
  sf_bnd (sf_rc 11 p0 (jx_Mo_canBe p0)) fun x3 =>
  sf_bnd (sf_loop (β := (Int32 × Int32 × Int32)) (γ := (Int32 × Int32)) (fun b4 =>
  if (8 : Int32) ≤ b4.2.2 then (
  sf_ret (.inr (b4.1, b4.2.1))
  ) else (
  if x3 = 0 then (
  sf_ret (.inr (b4.1, b4.2.1))
  ) else (
  sf_bnd (sf_rc 11 p0 (jx_Mo_mostAlike p0 x3 b4.2.2)) fun x7 =>
  if x7 < b4.2.1 then (
  sf_bnd (sf_ret (b4.2.2 + (1 : Int32))) fun y9 =>
  sf_ret (.inl (b4.2.2, x7, y9))
  ) else (
  sf_bnd (sf_ret (b4.2.2 + (1 : Int32))) fun y10 =>
  sf_ret (.inl (b4.1, b4.2.1, y10))
  )
  )
  )
  ) sf_fuel ((-1 : Int32), (100000000 : Int32), (0 : Int32))) (fun e11 =>
  if e11.1 = (-1 : Int32) then (
  sf_ret e11.1
  ) else (
  if p1 = 0 then (
  sf_ret e11.1
  ) else (
  sf_ret e11.2
  )
  )
  )
  )
set_option maxRecDepth 20000 in
set_option maxHeartbeats 4000000 in
theorem ok_Mo_ask (p0 : Option Nat) (p1 : Int32) : sf_Ok ({ cls := "SplitFaresModel", name := "ask", desc := "(I)I" } : Jvm.MethodName) prog_13_method_129_code 7 (some .int) 211 [sf_rv p0, .int p1] (jx_Mo_ask p0 p1) (fun r => some (.int r)) := by
  refine sf_Ok.of (env := [some (sf_rv p0), some (.int p1), none, none, none, none, none]) (plainFor_of_name (by decide)) [false, false] (fun G => ⟨pk_r, pk_i, trivial⟩) (Nat.le_of_ble_eq_true rfl) rfl (fun X => ?_)
  unfold jx_Mo_ask
  refine fp_iload_n (i := 1) (x := p1) dd_Mo_ask_0 rfl rfl (fr_pc (pc' := 1) rfl ?_)
  refine fp_iconst (v := (0 : Int32)) dd_Mo_ask_1 (by decide) (fr_pc (pc' := 2) rfl ?_)
  refine fp_iconst (v := (1 : Int32)) dd_Mo_ask_2 (by decide) (fr_pc (pc' := 3) rfl ?_)
  refine fr_callS (stk := []) (ok_Mo_lies p1 (0 : Int32) (1 : Int32)) mt_Mo_lies rfl rfl sw_1237 sw_1238 (by decide) (Nat.le_of_ble_eq_true rfl) dd_Mo_ask_3 (fun x1 => fr_to (pc' := 6) (env' := [some (sf_rv p0), some (.int p1), none, none, none, none, none]) (stk' := [.int x1]) rfl rfl rfl ?_)
  refine fr_if_ne (tgt := 11) dd_Mo_ask_6 rfl (fun _ => ?_) (fun _ => ?_)
  · refine fr_pc (pc' := 9) rfl ?_
    refine fp_iconst (v := (-1 : Int32)) dd_Mo_ask_9 (by decide) (fr_pc (pc' := 10) rfl ?_)
    exact fr_iret (v := (-1 : Int32)) rfl rfl dd_Mo_ask_10
  · refine fp_aload_n (i := 0) (r := p0) dd_Mo_ask_11 rfl rfl (fr_pc (pc' := 12) rfl ?_)
    refine fr_callV (stk := []) (As := []) cl_11 (ok_Mo_canBe p0) mt_Mo_canBe rfl rfl sw_1721 sw_1706 sw_1707 (by decide) (Nat.le_of_ble_eq_true rfl) dd_Mo_ask_12 (fun x3 => fr_to (pc' := 15) (env' := [some (sf_rv p0), some (.int p1), none, none, none, none, none]) (stk' := [.int x3]) rfl rfl rfl ?_)
    refine fp_istore_n (i := 2) dd_Mo_ask_15 rfl (Nat.le_of_ble_eq_true rfl) (fun _ => c1_i rfl) (fr_to (pc' := 16) (env' := [some (sf_rv p0), some (.int p1), some (.int x3), none, none, none, none]) (stk' := []) rfl rfl rfl ?_)
    refine fp_iconst (v := (-1 : Int32)) dd_Mo_ask_16 (by decide) (fr_pc (pc' := 17) rfl ?_)
    refine fp_istore_n (i := 3) dd_Mo_ask_17 rfl (Nat.le_of_ble_eq_true rfl) (fun _ => c1_i rfl) (fr_to (pc' := 18) (env' := [some (sf_rv p0), some (.int p1), some (.int x3), some (.int (-1 : Int32)), none, none, none]) (stk' := []) rfl rfl rfl ?_)
    refine fp_ldcw (v := (100000000 : Int32)) dd_Mo_ask_18 sw_1535 (fr_pc (pc' := 21) rfl ?_)
    refine fp_istore (i := 4) dd_Mo_ask_21 (Nat.le_of_ble_eq_true rfl) (fun _ => c1_i rfl) (fr_to (pc' := 23) (env' := [some (sf_rv p0), some (.int p1), some (.int x3), some (.int (-1 : Int32)), some (.int (100000000 : Int32)), none, none]) (stk' := []) rfl rfl rfl ?_)
    refine fp_iconst (v := (0 : Int32)) dd_Mo_ask_23 (by decide) (fr_pc (pc' := 24) rfl ?_)
    refine fp_istore (i := 5) dd_Mo_ask_24 (Nat.le_of_ble_eq_true rfl) (fun _ => c1_i rfl) (fr_to (pc' := 26) (env' := [some (sf_rv p0), some (.int p1), some (.int x3), some (.int (-1 : Int32)), some (.int (100000000 : Int32)), some (.int (0 : Int32)), none]) (stk' := []) rfl rfl rfl ?_)
    refine fr_to (pc' := 26) (env' := [some (sf_rv p0), some (.int p1), some (.int x3), some (.int (-1 : Int32)), some (.int (100000000 : Int32)), some (.int (0 : Int32)), none]) (stk' := []) rfl rfl rfl ?_
    refine fr_bnd (l1 := (fun (e11 : (Int32 × Int32)) => sf_p 69 [some (sf_rv p0), some (.int p1), some (.int x3), some (.int e11.1), some (.int e11.2), none, none] [])) (fr_loop (Lb := (fun (b4 : (Int32 × Int32 × Int32)) => sf_p 26 [some (sf_rv p0), some (.int p1), some (.int x3), some (.int b4.1), some (.int b4.2.1), some (.int b4.2.2), none] [])) (fun b4 => ?_) _ _) (fun e11 => ?_)
    · refine fp_iload (i := 5) (x := b4.2.2) dd_Mo_ask_26 rfl (fr_pc (pc' := 28) rfl ?_)
      refine fp_bipush (v := (8 : Int32)) dd_Mo_ask_28 (by decide) (fr_pc (pc' := 30) rfl ?_)
      refine fr_icmp_ge (tgt := 69) dd_Mo_ask_30 rfl (fun _ => ?_) (fun _ => ?_)
      · refine fr_wk [true, true, true, true, true, false, false] ?_
        exact fr_ret rfl
      · refine fr_pc (pc' := 33) rfl ?_
        refine fp_iload_n (i := 2) (x := x3) dd_Mo_ask_33 rfl rfl (fr_pc (pc' := 34) rfl ?_)
        refine fr_if_eq (tgt := 69) dd_Mo_ask_34 rfl (fun _ => ?_) (fun _ => ?_)
        · refine fr_wk [true, true, true, true, true, false, false] ?_
          exact fr_ret rfl
        · refine fr_pc (pc' := 37) rfl ?_
          refine fp_aload_n (i := 0) (r := p0) dd_Mo_ask_37 rfl rfl (fr_pc (pc' := 38) rfl ?_)
          refine fp_iload_n (i := 2) (x := x3) dd_Mo_ask_38 rfl rfl (fr_pc (pc' := 39) rfl ?_)
          refine fp_iload (i := 5) (x := b4.2.2) dd_Mo_ask_39 rfl (fr_pc (pc' := 41) rfl ?_)
          refine fr_callV (stk := []) (As := [.int x3, .int b4.2.2]) cl_11 (ok_Mo_mostAlike p0 x3 b4.2.2) mt_Mo_mostAlike rfl rfl sw_1722 sw_1724 sp_100 (by decide) (Nat.le_of_ble_eq_true rfl) dd_Mo_ask_41 (fun x7 => fr_to (pc' := 44) (env' := [some (sf_rv p0), some (.int p1), some (.int x3), some (.int b4.1), some (.int b4.2.1), some (.int b4.2.2), none]) (stk' := [.int x7]) rfl rfl rfl ?_)
          refine fp_istore (i := 6) dd_Mo_ask_44 (Nat.le_of_ble_eq_true rfl) (fun _ => c1_i rfl) (fr_to (pc' := 46) (env' := [some (sf_rv p0), some (.int p1), some (.int x3), some (.int b4.1), some (.int b4.2.1), some (.int b4.2.2), some (.int x7)]) (stk' := []) rfl rfl rfl ?_)
          refine fp_iload (i := 6) (x := x7) dd_Mo_ask_46 rfl (fr_pc (pc' := 48) rfl ?_)
          refine fp_iload (i := 4) (x := b4.2.1) dd_Mo_ask_48 rfl (fr_pc (pc' := 50) rfl ?_)
          refine fr_icmp_lt (tgt := 56) dd_Mo_ask_50 rfl (fun _ => ?_) (fun _ => ?_)
          · refine fp_iload (i := 6) (x := x7) dd_Mo_ask_56 rfl (fr_pc (pc' := 58) rfl ?_)
            refine fp_istore (i := 4) dd_Mo_ask_58 (Nat.le_of_ble_eq_true rfl) (fun _ => c1_i rfl) (fr_to (pc' := 60) (env' := [some (sf_rv p0), some (.int p1), some (.int x3), some (.int b4.1), some (.int x7), some (.int b4.2.2), some (.int x7)]) (stk' := []) rfl rfl rfl ?_)
            refine fp_iload (i := 5) (x := b4.2.2) dd_Mo_ask_60 rfl (fr_pc (pc' := 62) rfl ?_)
            refine fp_istore_n (i := 3) dd_Mo_ask_62 rfl (Nat.le_of_ble_eq_true rfl) (fun _ => c1_i rfl) (fr_to (pc' := 63) (env' := [some (sf_rv p0), some (.int p1), some (.int x3), some (.int b4.2.2), some (.int x7), some (.int b4.2.2), some (.int x7)]) (stk' := []) rfl rfl rfl ?_)
            refine fr_niinc (i := 5) (x := b4.2.2) (w := (1 : Int32)) dd_Mo_ask_63 rfl (by decide) (Nat.le_of_ble_eq_true rfl) (fun _ => c1_i rfl) (fun y9 => fr_to (pc' := 66) (env' := [some (sf_rv p0), some (.int p1), some (.int x3), some (.int b4.2.2), some (.int x7), some (.int y9), some (.int x7)]) (stk' := []) rfl rfl rfl ?_)
            refine fp_goto (tgt := 26) dd_Mo_ask_66 rfl ?_
            refine fr_wk [true, true, true, true, true, true, false] ?_
            exact fr_ret rfl
          · refine fr_pc (pc' := 53) rfl ?_
            refine fp_goto (tgt := 63) dd_Mo_ask_53 rfl ?_
            refine fr_niinc (i := 5) (x := b4.2.2) (w := (1 : Int32)) dd_Mo_ask_63 rfl (by decide) (Nat.le_of_ble_eq_true rfl) (fun _ => c1_i rfl) (fun y10 => fr_to (pc' := 66) (env' := [some (sf_rv p0), some (.int p1), some (.int x3), some (.int b4.1), some (.int b4.2.1), some (.int y10), some (.int x7)]) (stk' := []) rfl rfl rfl ?_)
            refine fp_goto (tgt := 26) dd_Mo_ask_66 rfl ?_
            refine fr_wk [true, true, true, true, true, true, false] ?_
            exact fr_ret rfl
    · refine fp_iload_n (i := 3) (x := e11.1) dd_Mo_ask_69 rfl rfl (fr_pc (pc' := 70) rfl ?_)
      refine fp_iconst (v := (-1 : Int32)) dd_Mo_ask_70 (by decide) (fr_pc (pc' := 71) rfl ?_)
      refine fr_icmp_eq (tgt := 78) dd_Mo_ask_71 rfl (fun _ => ?_) (fun _ => ?_)
      · refine fp_iload_n (i := 3) (x := e11.1) dd_Mo_ask_78 rfl rfl (fr_pc (pc' := 79) rfl ?_)
        refine fp_goto (tgt := 84) dd_Mo_ask_79 rfl ?_
        exact fr_iret (v := e11.1) rfl rfl dd_Mo_ask_84
      · refine fr_pc (pc' := 74) rfl ?_
        refine fp_iload_n (i := 1) (x := p1) dd_Mo_ask_74 rfl rfl (fr_pc (pc' := 75) rfl ?_)
        refine fr_if_ne (tgt := 82) dd_Mo_ask_75 rfl (fun _ => ?_) (fun _ => ?_)
        · refine fr_pc (pc' := 78) rfl ?_
          refine fp_iload_n (i := 3) (x := e11.1) dd_Mo_ask_78 rfl rfl (fr_pc (pc' := 79) rfl ?_)
          refine fp_goto (tgt := 84) dd_Mo_ask_79 rfl ?_
          exact fr_iret (v := e11.1) rfl rfl dd_Mo_ask_84
        · refine fp_iload (i := 4) (x := e11.2) dd_Mo_ask_82 rfl (fr_pc (pc' := 84) rfl ?_)
          exact fr_iret (v := e11.2) rfl rfl dd_Mo_ask_84
theorem mt_Mo_compare : sf_Mt ({ cls := "SplitFaresModel", name := "compare", desc := "(III)I" } : Jvm.MethodName) prog_13_method_130_code 6 (some .int) 3 := ⟨sw_1729, sw_12, ⟨by decide, by decide, by decide +kernel⟩, by decide⟩
theorem dd_Mo_compare_0 : decode prog_13_method_130_code 0 = .ok (.aload_n 0, 1) := by decide +kernel
theorem dd_Mo_compare_1 : decode prog_13_method_130_code 1 = .ok (.iload_n 1, 1) := by decide +kernel
theorem dd_Mo_compare_2 : decode prog_13_method_130_code 2 = .ok (.invokevirtual 259, 3) := by decide +kernel
theorem dd_Mo_compare_5 : decode prog_13_method_130_code 5 = .ok (.ifCond .eq 11, 3) := by decide +kernel
theorem dd_Mo_compare_8 : decode prog_13_method_130_code 8 = .ok (.iload_n 2, 1) := by decide +kernel
theorem dd_Mo_compare_9 : decode prog_13_method_130_code 9 = .ok (.iload_n 3, 1) := by decide +kernel
theorem dd_Mo_compare_10 : decode prog_13_method_130_code 10 = .ok (.invokestatic 139, 3) := by decide +kernel
theorem dd_Mo_compare_13 : decode prog_13_method_130_code 13 = .ok (.ifCond .ne 5, 3) := by decide +kernel
theorem dd_Mo_compare_18 : decode prog_13_method_130_code 18 = .ok (.aload_n 0, 1) := by decide +kernel
theorem dd_Mo_compare_19 : decode prog_13_method_130_code 19 = .ok (.getfield 32, 3) := by decide +kernel
theorem dd_Mo_compare_22 : decode prog_13_method_130_code 22 = .ok (.sipush 230, 3) := by decide +kernel
theorem dd_Mo_compare_25 : decode prog_13_method_130_code 25 = .ok (.iaload, 1) := by decide +kernel
theorem dd_Mo_compare_26 : decode prog_13_method_130_code 26 = .ok (.istore 4, 2) := by decide +kernel
theorem dd_Mo_compare_28 : decode prog_13_method_130_code 28 = .ok (.aload_n 0, 1) := by decide +kernel
theorem dd_Mo_compare_29 : decode prog_13_method_130_code 29 = .ok (.getfield 32, 3) := by decide +kernel
theorem dd_Mo_compare_32 : decode prog_13_method_130_code 32 = .ok (.sipush 230, 3) := by decide +kernel
theorem dd_Mo_compare_35 : decode prog_13_method_130_code 35 = .ok (.iload_n 1, 1) := by decide +kernel
theorem dd_Mo_compare_36 : decode prog_13_method_130_code 36 = .ok (.iastore, 1) := by decide +kernel
theorem dd_Mo_compare_37 : decode prog_13_method_130_code 37 = .ok (.aload_n 0, 1) := by decide +kernel
theorem dd_Mo_compare_38 : decode prog_13_method_130_code 38 = .ok (.iconst 0, 1) := by decide +kernel
theorem dd_Mo_compare_39 : decode prog_13_method_130_code 39 = .ok (.iload_n 2, 1) := by decide +kernel
theorem dd_Mo_compare_40 : decode prog_13_method_130_code 40 = .ok (.iload_n 3, 1) := by decide +kernel
theorem dd_Mo_compare_41 : decode prog_13_method_130_code 41 = .ok (.invokevirtual 339, 3) := by decide +kernel
theorem dd_Mo_compare_44 : decode prog_13_method_130_code 44 = .ok (.istore 5, 2) := by decide +kernel
theorem dd_Mo_compare_46 : decode prog_13_method_130_code 46 = .ok (.aload_n 0, 1) := by decide +kernel
theorem dd_Mo_compare_47 : decode prog_13_method_130_code 47 = .ok (.getfield 32, 3) := by decide +kernel
theorem dd_Mo_compare_50 : decode prog_13_method_130_code 50 = .ok (.sipush 230, 3) := by decide +kernel
theorem dd_Mo_compare_53 : decode prog_13_method_130_code 53 = .ok (.iload 4, 2) := by decide +kernel
theorem dd_Mo_compare_55 : decode prog_13_method_130_code 55 = .ok (.iastore, 1) := by decide +kernel
theorem dd_Mo_compare_56 : decode prog_13_method_130_code 56 = .ok (.iload 5, 2) := by decide +kernel
theorem dd_Mo_compare_58 : decode prog_13_method_130_code 58 = .ok (.ireturn, 1) := by decide +kernel
theorem dd_Mo_compare_16 : decode prog_13_method_130_code 16 = .ok (.iconst (-1), 1) := by decide +kernel
theorem dd_Mo_compare_17 : decode prog_13_method_130_code 17 = .ok (.ireturn, 1) := by decide +kernel
def jx_Mo_compare (p0 : Option Nat) (p1 : Int32) (p2 : Int32) (p3 : Int32) : sf_M (Int32) :=
  sf_bnd (sf_rc 11 p0 (jx_Mo_isLaw p0 p1)) fun x1 =>
  if x1 = 0 then (
  sf_ret (-1 : Int32)
  ) else (
  sf_bnd (jx_Mo_areTwo p2 p3) fun x3 =>
  if x3 = 0 then (
  sf_ret (-1 : Int32)
  ) else (
  sf_bnd (sf_gR 11 2 p0) fun x5 =>
  sf_bnd (sf_aI 0 x5 (230 : Int32)) fun x6 =>
  sf_bnd (sf_gR 11 2 p0) fun x7 =>
  sf_bnd (sf_sI 0 x7 (230 : Int32) p1) fun _ =>
  sf_bnd (sf_rc 11 p0 (jx_Mo_costOf p0 (0 : Int32) p2 p3)) fun x8 =>
  sf_bnd (sf_gR 11 2 p0) fun x9 =>
  sf_bnd (sf_sI 0 x9 (230 : Int32) x6) fun _ =>
  sf_ret x8
  )
  )
set_option maxRecDepth 20000 in
set_option maxHeartbeats 4000000 in
theorem ok_Mo_compare (p0 : Option Nat) (p1 : Int32) (p2 : Int32) (p3 : Int32) : sf_Ok ({ cls := "SplitFaresModel", name := "compare", desc := "(III)I" } : Jvm.MethodName) prog_13_method_130_code 6 (some .int) 207 [sf_rv p0, .int p1, .int p2, .int p3] (jx_Mo_compare p0 p1 p2 p3) (fun r => some (.int r)) := by
  refine sf_Ok.of (env := [some (sf_rv p0), some (.int p1), some (.int p2), some (.int p3), none, none]) (plainFor_of_name (by decide)) [false, false, false, false] (fun G => ⟨pk_r, pk_i, pk_i, pk_i, trivial⟩) (Nat.le_of_ble_eq_true rfl) rfl (fun X => ?_)
  unfold jx_Mo_compare
  refine fp_aload_n (i := 0) (r := p0) dd_Mo_compare_0 rfl rfl (fr_pc (pc' := 1) rfl ?_)
  refine fp_iload_n (i := 1) (x := p1) dd_Mo_compare_1 rfl rfl (fr_pc (pc' := 2) rfl ?_)
  refine fr_callV (stk := []) (As := [.int p1]) cl_11 (ok_Mo_isLaw p0 p1) mt_Mo_isLaw rfl rfl sw_1422 sw_1424 sp_52 (by decide) (Nat.le_of_ble_eq_true rfl) dd_Mo_compare_2 (fun x1 => fr_to (pc' := 5) (env' := [some (sf_rv p0), some (.int p1), some (.int p2), some (.int p3), none, none]) (stk' := [.int x1]) rfl rfl rfl ?_)
  refine fr_if_eq (tgt := 16) dd_Mo_compare_5 rfl (fun _ => ?_) (fun _ => ?_)
  · refine fp_iconst (v := (-1 : Int32)) dd_Mo_compare_16 (by decide) (fr_pc (pc' := 17) rfl ?_)
    exact fr_iret (v := (-1 : Int32)) rfl rfl dd_Mo_compare_17
  · refine fr_pc (pc' := 8) rfl ?_
    refine fp_iload_n (i := 2) (x := p2) dd_Mo_compare_8 rfl rfl (fr_pc (pc' := 9) rfl ?_)
    refine fp_iload_n (i := 3) (x := p3) dd_Mo_compare_9 rfl rfl (fr_pc (pc' := 10) rfl ?_)
    refine fr_callS (stk := []) (ok_Mo_areTwo p2 p3) mt_Mo_areTwo rfl rfl sw_1282 sw_1283 (by decide) (Nat.le_of_ble_eq_true rfl) dd_Mo_compare_10 (fun x3 => fr_to (pc' := 13) (env' := [some (sf_rv p0), some (.int p1), some (.int p2), some (.int p3), none, none]) (stk' := [.int x3]) rfl rfl rfl ?_)
    refine fr_if_ne (tgt := 18) dd_Mo_compare_13 rfl (fun _ => ?_) (fun _ => ?_)
    · refine fr_pc (pc' := 16) rfl ?_
      refine fp_iconst (v := (-1 : Int32)) dd_Mo_compare_16 (by decide) (fr_pc (pc' := 17) rfl ?_)
      exact fr_iret (v := (-1 : Int32)) rfl rfl dd_Mo_compare_17
    · refine fp_aload_n (i := 0) (r := p0) dd_Mo_compare_18 rfl rfl (fr_pc (pc' := 19) rfl ?_)
      refine fr_gR cl_11 2 (by decide) rfl sw_1074 dd_Mo_compare_19 (fun x5 => fr_pc (pc' := 22) rfl ?_)
      refine fp_sipush (v := (230 : Int32)) dd_Mo_compare_22 (by decide) (fr_pc (pc' := 25) rfl ?_)
      refine fr_aI0 dd_Mo_compare_25 (fun x6 => fr_pc (pc' := 26) rfl ?_)
      refine fp_istore (i := 4) dd_Mo_compare_26 (Nat.le_of_ble_eq_true rfl) (fun _ => c1_i rfl) (fr_to (pc' := 28) (env' := [some (sf_rv p0), some (.int p1), some (.int p2), some (.int p3), some (.int x6), none]) (stk' := []) rfl rfl rfl ?_)
      refine fp_aload_n (i := 0) (r := p0) dd_Mo_compare_28 rfl rfl (fr_pc (pc' := 29) rfl ?_)
      refine fr_gR cl_11 2 (by decide) rfl sw_1074 dd_Mo_compare_29 (fun x7 => fr_pc (pc' := 32) rfl ?_)
      refine fp_sipush (v := (230 : Int32)) dd_Mo_compare_32 (by decide) (fr_pc (pc' := 35) rfl ?_)
      refine fp_iload_n (i := 1) (x := p1) dd_Mo_compare_35 rfl rfl (fr_pc (pc' := 36) rfl ?_)
      refine fr_sI0 dd_Mo_compare_36 (fr_pc (pc' := 37) rfl ?_)
      refine fp_aload_n (i := 0) (r := p0) dd_Mo_compare_37 rfl rfl (fr_pc (pc' := 38) rfl ?_)
      refine fp_iconst (v := (0 : Int32)) dd_Mo_compare_38 (by decide) (fr_pc (pc' := 39) rfl ?_)
      refine fp_iload_n (i := 2) (x := p2) dd_Mo_compare_39 rfl rfl (fr_pc (pc' := 40) rfl ?_)
      refine fp_iload_n (i := 3) (x := p3) dd_Mo_compare_40 rfl rfl (fr_pc (pc' := 41) rfl ?_)
      refine fr_callV (stk := []) (As := [.int (0 : Int32), .int p2, .int p3]) cl_11 (ok_Mo_costOf p0 (0 : Int32) p2 p3) mt_Mo_costOf rfl rfl sw_1430 sw_1432 sp_53 (by decide) (Nat.le_of_ble_eq_true rfl) dd_Mo_compare_41 (fun x8 => fr_to (pc' := 44) (env' := [some (sf_rv p0), some (.int p1), some (.int p2), some (.int p3), some (.int x6), none]) (stk' := [.int x8]) rfl rfl rfl ?_)
      refine fp_istore (i := 5) dd_Mo_compare_44 (Nat.le_of_ble_eq_true rfl) (fun _ => c1_i rfl) (fr_to (pc' := 46) (env' := [some (sf_rv p0), some (.int p1), some (.int p2), some (.int p3), some (.int x6), some (.int x8)]) (stk' := []) rfl rfl rfl ?_)
      refine fp_aload_n (i := 0) (r := p0) dd_Mo_compare_46 rfl rfl (fr_pc (pc' := 47) rfl ?_)
      refine fr_gR cl_11 2 (by decide) rfl sw_1074 dd_Mo_compare_47 (fun x9 => fr_pc (pc' := 50) rfl ?_)
      refine fp_sipush (v := (230 : Int32)) dd_Mo_compare_50 (by decide) (fr_pc (pc' := 53) rfl ?_)
      refine fp_iload (i := 4) (x := x6) dd_Mo_compare_53 rfl (fr_pc (pc' := 55) rfl ?_)
      refine fr_sI0 dd_Mo_compare_55 (fr_pc (pc' := 56) rfl ?_)
      refine fp_iload (i := 5) (x := x8) dd_Mo_compare_56 rfl (fr_pc (pc' := 58) rfl ?_)
      exact fr_iret (v := x8) rfl rfl dd_Mo_compare_58
theorem mt_Mo_few : sf_Mt ({ cls := "SplitFaresModel", name := "few", desc := "(II)J" } : Jvm.MethodName) prog_13_method_131_code 6 (some .long) 2 := ⟨sw_1733, sw_12, ⟨by decide, by decide, by decide +kernel⟩, by decide⟩
theorem dd_Mo_few_0 : decode prog_13_method_131_code 0 = .ok (.iload_n 1, 1) := by decide +kernel
theorem dd_Mo_few_1 : decode prog_13_method_131_code 1 = .ok (.iconst 1, 1) := by decide +kernel
theorem dd_Mo_few_2 : decode prog_13_method_131_code 2 = .ok (.bipush 20, 2) := by decide +kernel
theorem dd_Mo_few_4 : decode prog_13_method_131_code 4 = .ok (.invokestatic 18, 3) := by decide +kernel
theorem dd_Mo_few_7 : decode prog_13_method_131_code 7 = .ok (.ifCond .eq 13, 3) := by decide +kernel
theorem dd_Mo_few_10 : decode prog_13_method_131_code 10 = .ok (.iload_n 2, 1) := by decide +kernel
theorem dd_Mo_few_11 : decode prog_13_method_131_code 11 = .ok (.iconst 0, 1) := by decide +kernel
theorem dd_Mo_few_12 : decode prog_13_method_131_code 12 = .ok (.bipush 99, 2) := by decide +kernel
theorem dd_Mo_few_14 : decode prog_13_method_131_code 14 = .ok (.invokestatic 18, 3) := by decide +kernel
theorem dd_Mo_few_17 : decode prog_13_method_131_code 17 = .ok (.ifCond .ne 7, 3) := by decide +kernel
theorem dd_Mo_few_24 : decode prog_13_method_131_code 24 = .ok (.iconst 0, 1) := by decide +kernel
theorem dd_Mo_few_25 : decode prog_13_method_131_code 25 = .ok (.istore_n 3, 1) := by decide +kernel
theorem dd_Mo_few_26 : decode prog_13_method_131_code 26 = .ok (.iload_n 3, 1) := by decide +kernel
theorem dd_Mo_few_27 : decode prog_13_method_131_code 27 = .ok (.bipush 20, 2) := by decide +kernel
theorem dd_Mo_few_29 : decode prog_13_method_131_code 29 = .ok (.if_icmp .gt 26, 3) := by decide +kernel
theorem dd_Mo_few_32 : decode prog_13_method_131_code 32 = .ok (.aload_n 0, 1) := by decide +kernel
theorem dd_Mo_few_33 : decode prog_13_method_131_code 33 = .ok (.getfield 103, 3) := by decide +kernel
theorem dd_Mo_few_36 : decode prog_13_method_131_code 36 = .ok (.iload_n 3, 1) := by decide +kernel
theorem dd_Mo_few_37 : decode prog_13_method_131_code 37 = .ok (.iload_n 3, 1) := by decide +kernel
theorem dd_Mo_few_38 : decode prog_13_method_131_code 38 = .ok (.ifCond .ne 9, 3) := by decide +kernel
theorem dd_Mo_few_41 : decode prog_13_method_131_code 41 = .ok (.ldc2_w 461, 3) := by decide +kernel
theorem dd_Mo_few_44 : decode prog_13_method_131_code 44 = .ok (.goto 4, 3) := by decide +kernel
theorem dd_Mo_few_47 : decode prog_13_method_131_code 47 = .ok (.lconst 0, 1) := by decide +kernel
theorem dd_Mo_few_48 : decode prog_13_method_131_code 48 = .ok (.lastore, 1) := by decide +kernel
theorem dd_Mo_few_49 : decode prog_13_method_131_code 49 = .ok (.iinc 3 1, 3) := by decide +kernel
theorem dd_Mo_few_52 : decode prog_13_method_131_code 52 = .ok (.goto (-26), 3) := by decide +kernel
theorem dd_Mo_few_55 : decode prog_13_method_131_code 55 = .ok (.iconst 0, 1) := by decide +kernel
theorem dd_Mo_few_56 : decode prog_13_method_131_code 56 = .ok (.istore_n 3, 1) := by decide +kernel
theorem dd_Mo_few_57 : decode prog_13_method_131_code 57 = .ok (.iload_n 3, 1) := by decide +kernel
theorem dd_Mo_few_58 : decode prog_13_method_131_code 58 = .ok (.iload_n 2, 1) := by decide +kernel
theorem dd_Mo_few_59 : decode prog_13_method_131_code 59 = .ok (.if_icmp .ge 89, 3) := by decide +kernel
theorem dd_Mo_few_62 : decode prog_13_method_131_code 62 = .ok (.iload_n 1, 1) := by decide +kernel
theorem dd_Mo_few_63 : decode prog_13_method_131_code 63 = .ok (.iconst 1, 1) := by decide +kernel
theorem dd_Mo_few_64 : decode prog_13_method_131_code 64 = .ok (.isub, 1) := by decide +kernel
theorem dd_Mo_few_65 : decode prog_13_method_131_code 65 = .ok (.istore 4, 2) := by decide +kernel
theorem dd_Mo_few_67 : decode prog_13_method_131_code 67 = .ok (.iload 4, 2) := by decide +kernel
theorem dd_Mo_few_69 : decode prog_13_method_131_code 69 = .ok (.ifCond .lt 73, 3) := by decide +kernel
theorem dd_Mo_few_72 : decode prog_13_method_131_code 72 = .ok (.aload_n 0, 1) := by decide +kernel
theorem dd_Mo_few_73 : decode prog_13_method_131_code 73 = .ok (.getfield 103, 3) := by decide +kernel
theorem dd_Mo_few_76 : decode prog_13_method_131_code 76 = .ok (.iload 4, 2) := by decide +kernel
theorem dd_Mo_few_78 : decode prog_13_method_131_code 78 = .ok (.iconst 1, 1) := by decide +kernel
theorem dd_Mo_few_79 : decode prog_13_method_131_code 79 = .ok (.iadd, 1) := by decide +kernel
theorem dd_Mo_few_80 : decode prog_13_method_131_code 80 = .ok (.dup2, 1) := by decide +kernel
theorem dd_Mo_few_81 : decode prog_13_method_131_code 81 = .ok (.laload, 1) := by decide +kernel
theorem dd_Mo_few_82 : decode prog_13_method_131_code 82 = .ok (.aload_n 0, 1) := by decide +kernel
theorem dd_Mo_few_83 : decode prog_13_method_131_code 83 = .ok (.getfield 103, 3) := by decide +kernel
theorem dd_Mo_few_86 : decode prog_13_method_131_code 86 = .ok (.iload 4, 2) := by decide +kernel
theorem dd_Mo_few_88 : decode prog_13_method_131_code 88 = .ok (.laload, 1) := by decide +kernel
theorem dd_Mo_few_89 : decode prog_13_method_131_code 89 = .ok (.aload_n 0, 1) := by decide +kernel
theorem dd_Mo_few_90 : decode prog_13_method_131_code 90 = .ok (.getfield 32, 3) := by decide +kernel
theorem dd_Mo_few_93 : decode prog_13_method_131_code 93 = .ok (.sipush 225, 3) := by decide +kernel
theorem dd_Mo_few_96 : decode prog_13_method_131_code 96 = .ok (.iaload, 1) := by decide +kernel
theorem dd_Mo_few_97 : decode prog_13_method_131_code 97 = .ok (.i2l, 1) := by decide +kernel
theorem dd_Mo_few_98 : decode prog_13_method_131_code 98 = .ok (.lmul, 1) := by decide +kernel
theorem dd_Mo_few_99 : decode prog_13_method_131_code 99 = .ok (.ldc2_w 463, 3) := by decide +kernel
theorem dd_Mo_few_102 : decode prog_13_method_131_code 102 = .ok (.ldiv, 1) := by decide +kernel
theorem dd_Mo_few_103 : decode prog_13_method_131_code 103 = .ok (.ladd, 1) := by decide +kernel
theorem dd_Mo_few_104 : decode prog_13_method_131_code 104 = .ok (.lastore, 1) := by decide +kernel
theorem dd_Mo_few_105 : decode prog_13_method_131_code 105 = .ok (.aload_n 0, 1) := by decide +kernel
theorem dd_Mo_few_106 : decode prog_13_method_131_code 106 = .ok (.getfield 103, 3) := by decide +kernel
theorem dd_Mo_few_109 : decode prog_13_method_131_code 109 = .ok (.iload 4, 2) := by decide +kernel
theorem dd_Mo_few_111 : decode prog_13_method_131_code 111 = .ok (.aload_n 0, 1) := by decide +kernel
theorem dd_Mo_few_112 : decode prog_13_method_131_code 112 = .ok (.getfield 103, 3) := by decide +kernel
theorem dd_Mo_few_115 : decode prog_13_method_131_code 115 = .ok (.iload 4, 2) := by decide +kernel
theorem dd_Mo_few_117 : decode prog_13_method_131_code 117 = .ok (.laload, 1) := by decide +kernel
theorem dd_Mo_few_118 : decode prog_13_method_131_code 118 = .ok (.bipush 10, 2) := by decide +kernel
theorem dd_Mo_few_120 : decode prog_13_method_131_code 120 = .ok (.aload_n 0, 1) := by decide +kernel
theorem dd_Mo_few_121 : decode prog_13_method_131_code 121 = .ok (.getfield 32, 3) := by decide +kernel
theorem dd_Mo_few_124 : decode prog_13_method_131_code 124 = .ok (.sipush 225, 3) := by decide +kernel
theorem dd_Mo_few_127 : decode prog_13_method_131_code 127 = .ok (.iaload, 1) := by decide +kernel
theorem dd_Mo_few_128 : decode prog_13_method_131_code 128 = .ok (.isub, 1) := by decide +kernel
theorem dd_Mo_few_129 : decode prog_13_method_131_code 129 = .ok (.i2l, 1) := by decide +kernel
theorem dd_Mo_few_130 : decode prog_13_method_131_code 130 = .ok (.lmul, 1) := by decide +kernel
theorem dd_Mo_few_131 : decode prog_13_method_131_code 131 = .ok (.ldc2_w 463, 3) := by decide +kernel
theorem dd_Mo_few_134 : decode prog_13_method_131_code 134 = .ok (.ldiv, 1) := by decide +kernel
theorem dd_Mo_few_135 : decode prog_13_method_131_code 135 = .ok (.lastore, 1) := by decide +kernel
theorem dd_Mo_few_136 : decode prog_13_method_131_code 136 = .ok (.iinc 4 (-1), 3) := by decide +kernel
theorem dd_Mo_few_139 : decode prog_13_method_131_code 139 = .ok (.goto (-72), 3) := by decide +kernel
theorem dd_Mo_few_142 : decode prog_13_method_131_code 142 = .ok (.iinc 3 1, 3) := by decide +kernel
theorem dd_Mo_few_145 : decode prog_13_method_131_code 145 = .ok (.goto (-88), 3) := by decide +kernel
theorem dd_Mo_few_148 : decode prog_13_method_131_code 148 = .ok (.lconst 0, 1) := by decide +kernel
theorem dd_Mo_few_149 : decode prog_13_method_131_code 149 = .ok (.lstore_n 3, 1) := by decide +kernel
theorem dd_Mo_few_150 : decode prog_13_method_131_code 150 = .ok (.iconst 0, 1) := by decide +kernel
theorem dd_Mo_few_151 : decode prog_13_method_131_code 151 = .ok (.istore 5, 2) := by decide +kernel
theorem dd_Mo_few_153 : decode prog_13_method_131_code 153 = .ok (.iload 5, 2) := by decide +kernel
theorem dd_Mo_few_155 : decode prog_13_method_131_code 155 = .ok (.iload_n 1, 1) := by decide +kernel
theorem dd_Mo_few_156 : decode prog_13_method_131_code 156 = .ok (.if_icmp .ge 19, 3) := by decide +kernel
theorem dd_Mo_few_159 : decode prog_13_method_131_code 159 = .ok (.lload_n 3, 1) := by decide +kernel
theorem dd_Mo_few_160 : decode prog_13_method_131_code 160 = .ok (.aload_n 0, 1) := by decide +kernel
theorem dd_Mo_few_161 : decode prog_13_method_131_code 161 = .ok (.getfield 103, 3) := by decide +kernel
theorem dd_Mo_few_164 : decode prog_13_method_131_code 164 = .ok (.iload 5, 2) := by decide +kernel
theorem dd_Mo_few_166 : decode prog_13_method_131_code 166 = .ok (.laload, 1) := by decide +kernel
theorem dd_Mo_few_167 : decode prog_13_method_131_code 167 = .ok (.ladd, 1) := by decide +kernel
theorem dd_Mo_few_168 : decode prog_13_method_131_code 168 = .ok (.lstore_n 3, 1) := by decide +kernel
theorem dd_Mo_few_169 : decode prog_13_method_131_code 169 = .ok (.iinc 5 1, 3) := by decide +kernel
theorem dd_Mo_few_172 : decode prog_13_method_131_code 172 = .ok (.goto (-19), 3) := by decide +kernel
theorem dd_Mo_few_175 : decode prog_13_method_131_code 175 = .ok (.lload_n 3, 1) := by decide +kernel
theorem dd_Mo_few_176 : decode prog_13_method_131_code 176 = .ok (.lreturn, 1) := by decide +kernel
theorem dd_Mo_few_20 : decode prog_13_method_131_code 20 = .ok (.ldc2_w 459, 3) := by decide +kernel
theorem dd_Mo_few_23 : decode prog_13_method_131_code 23 = .ok (.lreturn, 1) := by decide +kernel
def jx_Mo_few (p0 : Option Nat) (p1 : Int32) (p2 : Int32) : sf_M (Int64) :=
  sf_bnd (jx_Mo_lies p1 (1 : Int32) (20 : Int32)) fun x1 =>
  if x1 = 0 then (
  sf_ret (-1 : Int64)
  ) else (
  sf_bnd (jx_Mo_lies p2 (0 : Int32) (99 : Int32)) fun x3 =>
  if x3 = 0 then (
  sf_ret (-1 : Int64)
  ) else (
  sf_bnd (sf_loop (β := (Int32)) (γ := (Unit)) (fun b5 =>
  if (20 : Int32) < b5 then (
  sf_ret (.inr ())
  ) else (
  sf_bnd (sf_gR 11 42 p0) fun x7 =>
  if b5 = 0 then (
  sf_bnd (sf_sL x7 b5 (1000000000000 : Int64)) fun _ =>
  sf_bnd (sf_ret (b5 + (1 : Int32))) fun y9 =>
  sf_ret (.inl y9)
  ) else (
  sf_bnd (sf_sL x7 b5 (0 : Int64)) fun _ =>
  sf_bnd (sf_ret (b5 + (1 : Int32))) fun y10 =>
  sf_ret (.inl y10)
  )
  )
  ) sf_fuel (0 : Int32)) (fun e11 =>
  sf_bnd (sf_loop (β := (Int32)) (γ := (Unit)) (fun b12 =>
  if p2 ≤ b12 then (
  sf_ret (.inr ())
  ) else (
  sf_bnd (sf_ret ((p1 - (1 : Int32)))) fun y14 =>
  sf_bnd (sf_loop (β := (Int32)) (γ := (Unit)) (fun b15 =>
  if b15 < 0 then (
  sf_ret (.inr ())
  ) else (
  sf_bnd (sf_gR 11 42 p0) fun x17 =>
  sf_bnd (sf_aL x17 (b15 + (1 : Int32))) fun x18 =>
  sf_bnd (sf_gR 11 42 p0) fun x19 =>
  sf_bnd (sf_aL x19 b15) fun x20 =>
  sf_bnd (sf_gR 11 2 p0) fun x21 =>
  sf_bnd (sf_aI 0 x21 (225 : Int32)) fun x22 =>
  sf_bnd (sf_sL x17 (b15 + (1 : Int32)) (x18 + ((x20 * x22.toInt64) / (10 : Int64)))) fun _ =>
  sf_bnd (sf_gR 11 42 p0) fun x23 =>
  sf_bnd (sf_gR 11 42 p0) fun x24 =>
  sf_bnd (sf_aL x24 b15) fun x25 =>
  sf_bnd (sf_gR 11 2 p0) fun x26 =>
  sf_bnd (sf_aI 0 x26 (225 : Int32)) fun x27 =>
  sf_bnd (sf_sL x23 b15 ((x25 * ((10 : Int32) - x27).toInt64) / (10 : Int64))) fun _ =>
  sf_bnd (sf_ret (b15 + (-1 : Int32))) fun y28 =>
  sf_ret (.inl y28)
  )
  ) sf_fuel y14) (fun e29 =>
  sf_bnd (sf_ret (b12 + (1 : Int32))) fun y30 =>
  sf_ret (.inl y30)
  )
  )
  ) sf_fuel (0 : Int32)) (fun e31 =>
  sf_bnd (sf_loop (β := (Int64 × Int32)) (γ := (Int64)) (fun b32 =>
  if p1 ≤ b32.2 then (
  sf_ret (.inr b32.1)
  ) else (
  sf_bnd (sf_gR 11 42 p0) fun x34 =>
  sf_bnd (sf_aL x34 b32.2) fun x35 =>
  sf_bnd (sf_ret ((b32.1 + x35))) fun y36 =>
  sf_bnd (sf_ret (b32.2 + (1 : Int32))) fun y37 =>
  sf_ret (.inl (y36, y37))
  )
  ) sf_fuel ((0 : Int64), (0 : Int32))) (fun e38 =>
  sf_ret e38
  )
  )
  )
  )
  )
set_option maxRecDepth 20000 in
set_option maxHeartbeats 4000000 in
theorem ok_Mo_few (p0 : Option Nat) (p1 : Int32) (p2 : Int32) : sf_Ok ({ cls := "SplitFaresModel", name := "few", desc := "(II)J" } : Jvm.MethodName) prog_13_method_131_code 6 (some .long) 1 [sf_rv p0, .int p1, .int p2] (jx_Mo_few p0 p1 p2) (fun r => some (.long r)) := by
  refine sf_Ok.of (env := [some (sf_rv p0), some (.int p1), some (.int p2), none, none, none]) (plainFor_of_name (by decide)) [false, false, false] (fun G => ⟨pk_r, pk_i, pk_i, trivial⟩) (Nat.le_of_ble_eq_true rfl) rfl (fun X => ?_)
  unfold jx_Mo_few
  refine fp_iload_n (i := 1) (x := p1) dd_Mo_few_0 rfl rfl (fr_pc (pc' := 1) rfl ?_)
  refine fp_iconst (v := (1 : Int32)) dd_Mo_few_1 (by decide) (fr_pc (pc' := 2) rfl ?_)
  refine fp_bipush (v := (20 : Int32)) dd_Mo_few_2 (by decide) (fr_pc (pc' := 4) rfl ?_)
  refine fr_callS (stk := []) (ok_Mo_lies p1 (1 : Int32) (20 : Int32)) mt_Mo_lies rfl rfl sw_1237 sw_1238 (by decide) (Nat.le_of_ble_eq_true rfl) dd_Mo_few_4 (fun x1 => fr_to (pc' := 7) (env' := [some (sf_rv p0), some (.int p1), some (.int p2), none, none, none]) (stk' := [.int x1]) rfl rfl rfl ?_)
  refine fr_if_eq (tgt := 20) dd_Mo_few_7 rfl (fun _ => ?_) (fun _ => ?_)
  · refine fp_ldc2 (v := (-1 : Int64)) dd_Mo_few_20 sw_1734 (fr_pc (pc' := 23) rfl ?_)
    exact fr_lret (v := (-1 : Int64)) rfl rfl dd_Mo_few_23
  · refine fr_pc (pc' := 10) rfl ?_
    refine fp_iload_n (i := 2) (x := p2) dd_Mo_few_10 rfl rfl (fr_pc (pc' := 11) rfl ?_)
    refine fp_iconst (v := (0 : Int32)) dd_Mo_few_11 (by decide) (fr_pc (pc' := 12) rfl ?_)
    refine fp_bipush (v := (99 : Int32)) dd_Mo_few_12 (by decide) (fr_pc (pc' := 14) rfl ?_)
    refine fr_callS (stk := []) (ok_Mo_lies p2 (0 : Int32) (99 : Int32)) mt_Mo_lies rfl rfl sw_1237 sw_1238 (by decide) (Nat.le_of_ble_eq_true rfl) dd_Mo_few_14 (fun x3 => fr_to (pc' := 17) (env' := [some (sf_rv p0), some (.int p1), some (.int p2), none, none, none]) (stk' := [.int x3]) rfl rfl rfl ?_)
    refine fr_if_ne (tgt := 24) dd_Mo_few_17 rfl (fun _ => ?_) (fun _ => ?_)
    · refine fr_pc (pc' := 20) rfl ?_
      refine fp_ldc2 (v := (-1 : Int64)) dd_Mo_few_20 sw_1734 (fr_pc (pc' := 23) rfl ?_)
      exact fr_lret (v := (-1 : Int64)) rfl rfl dd_Mo_few_23
    · refine fp_iconst (v := (0 : Int32)) dd_Mo_few_24 (by decide) (fr_pc (pc' := 25) rfl ?_)
      refine fp_istore_n (i := 3) dd_Mo_few_25 rfl (Nat.le_of_ble_eq_true rfl) (fun _ => c1_i rfl) (fr_to (pc' := 26) (env' := [some (sf_rv p0), some (.int p1), some (.int p2), some (.int (0 : Int32)), none, none]) (stk' := []) rfl rfl rfl ?_)
      refine fr_to (pc' := 26) (env' := [some (sf_rv p0), some (.int p1), some (.int p2), some (.int (0 : Int32)), none, none]) (stk' := []) rfl rfl rfl ?_
      refine fr_bnd (l1 := (fun (e11 : (Unit)) => sf_p 55 [some (sf_rv p0), some (.int p1), some (.int p2), none, none, none] [])) (fr_loop (Lb := (fun (b5 : (Int32)) => sf_p 26 [some (sf_rv p0), some (.int p1), some (.int p2), some (.int b5), none, none] [])) (fun b5 => ?_) _ _) (fun e11 => ?_)
      · refine fp_iload_n (i := 3) (x := b5) dd_Mo_few_26 rfl rfl (fr_pc (pc' := 27) rfl ?_)
        refine fp_bipush (v := (20 : Int32)) dd_Mo_few_27 (by decide) (fr_pc (pc' := 29) rfl ?_)
        refine fr_icmp_gt (tgt := 55) dd_Mo_few_29 rfl (fun _ => ?_) (fun _ => ?_)
        · refine fr_wk [true, true, true, false, false, false] ?_
          exact fr_ret rfl
        · refine fr_pc (pc' := 32) rfl ?_
          refine fp_aload_n (i := 0) (r := p0) dd_Mo_few_32 rfl rfl (fr_pc (pc' := 33) rfl ?_)
          refine fr_gR cl_11 42 (by decide) rfl sw_1114 dd_Mo_few_33 (fun x7 => fr_pc (pc' := 36) rfl ?_)
          refine fp_iload_n (i := 3) (x := b5) dd_Mo_few_36 rfl rfl (fr_pc (pc' := 37) rfl ?_)
          refine fp_iload_n (i := 3) (x := b5) dd_Mo_few_37 rfl rfl (fr_pc (pc' := 38) rfl ?_)
          refine fr_if_ne (tgt := 47) dd_Mo_few_38 rfl (fun _ => ?_) (fun _ => ?_)
          · refine fr_pc (pc' := 41) rfl ?_
            refine fp_ldc2 (v := (1000000000000 : Int64)) dd_Mo_few_41 sw_1735 (fr_pc (pc' := 44) rfl ?_)
            refine fp_goto (tgt := 48) dd_Mo_few_44 rfl ?_
            refine fr_sL dd_Mo_few_48 (fr_pc (pc' := 49) rfl ?_)
            refine fr_niinc (i := 3) (x := b5) (w := (1 : Int32)) dd_Mo_few_49 rfl (by decide) (Nat.le_of_ble_eq_true rfl) (fun _ => c1_i rfl) (fun y9 => fr_to (pc' := 52) (env' := [some (sf_rv p0), some (.int p1), some (.int p2), some (.int y9), none, none]) (stk' := []) rfl rfl rfl ?_)
            refine fp_goto (tgt := 26) dd_Mo_few_52 rfl ?_
            exact fr_ret rfl
          · refine fp_lconst (v := (0 : Int64)) dd_Mo_few_47 (by decide) (fr_pc (pc' := 48) rfl ?_)
            refine fr_sL dd_Mo_few_48 (fr_pc (pc' := 49) rfl ?_)
            refine fr_niinc (i := 3) (x := b5) (w := (1 : Int32)) dd_Mo_few_49 rfl (by decide) (Nat.le_of_ble_eq_true rfl) (fun _ => c1_i rfl) (fun y10 => fr_to (pc' := 52) (env' := [some (sf_rv p0), some (.int p1), some (.int p2), some (.int y10), none, none]) (stk' := []) rfl rfl rfl ?_)
            refine fp_goto (tgt := 26) dd_Mo_few_52 rfl ?_
            exact fr_ret rfl
      · refine fp_iconst (v := (0 : Int32)) dd_Mo_few_55 (by decide) (fr_pc (pc' := 56) rfl ?_)
        refine fp_istore_n (i := 3) dd_Mo_few_56 rfl (Nat.le_of_ble_eq_true rfl) (fun _ => c1_i rfl) (fr_to (pc' := 57) (env' := [some (sf_rv p0), some (.int p1), some (.int p2), some (.int (0 : Int32)), none, none]) (stk' := []) rfl rfl rfl ?_)
        refine fr_to (pc' := 57) (env' := [some (sf_rv p0), some (.int p1), some (.int p2), some (.int (0 : Int32)), none, none]) (stk' := []) rfl rfl rfl ?_
        refine fr_bnd (l1 := (fun (e31 : (Unit)) => sf_p 148 [some (sf_rv p0), some (.int p1), some (.int p2), none, none, none] [])) (fr_loop (Lb := (fun (b12 : (Int32)) => sf_p 57 [some (sf_rv p0), some (.int p1), some (.int p2), some (.int b12), none, none] [])) (fun b12 => ?_) _ _) (fun e31 => ?_)
        · refine fp_iload_n (i := 3) (x := b12) dd_Mo_few_57 rfl rfl (fr_pc (pc' := 58) rfl ?_)
          refine fp_iload_n (i := 2) (x := p2) dd_Mo_few_58 rfl rfl (fr_pc (pc' := 59) rfl ?_)
          refine fr_icmp_ge (tgt := 148) dd_Mo_few_59 rfl (fun _ => ?_) (fun _ => ?_)
          · refine fr_wk [true, true, true, false, false, false] ?_
            exact fr_ret rfl
          · refine fr_pc (pc' := 62) rfl ?_
            refine fp_iload_n (i := 1) (x := p1) dd_Mo_few_62 rfl rfl (fr_pc (pc' := 63) rfl ?_)
            refine fp_iconst (v := (1 : Int32)) dd_Mo_few_63 (by decide) (fr_pc (pc' := 64) rfl ?_)
            refine fp_isub dd_Mo_few_64 (fr_pc (pc' := 65) rfl ?_)
            refine fr_nistore (i := 4) dd_Mo_few_65 (Nat.le_of_ble_eq_true rfl) (fun _ => c1_i rfl) (fun y14 => fr_to (pc' := 67) (env' := [some (sf_rv p0), some (.int p1), some (.int p2), some (.int b12), some (.int y14), none]) (stk' := []) rfl rfl rfl ?_)
            refine fr_to (pc' := 67) (env' := [some (sf_rv p0), some (.int p1), some (.int p2), some (.int b12), some (.int y14), none]) (stk' := []) rfl rfl rfl ?_
            refine fr_bnd (l1 := (fun (e29 : (Unit)) => sf_p 142 [some (sf_rv p0), some (.int p1), some (.int p2), some (.int b12), none, none] [])) (fr_loop (Lb := (fun (b15 : (Int32)) => sf_p 67 [some (sf_rv p0), some (.int p1), some (.int p2), some (.int b12), some (.int b15), none] [])) (fun b15 => ?_) _ _) (fun e29 => ?_)
            · refine fp_iload (i := 4) (x := b15) dd_Mo_few_67 rfl (fr_pc (pc' := 69) rfl ?_)
              refine fr_if_lt (tgt := 142) dd_Mo_few_69 rfl (fun _ => ?_) (fun _ => ?_)
              · refine fr_wk [true, true, true, true, false, false] ?_
                exact fr_ret rfl
              · refine fr_pc (pc' := 72) rfl ?_
                refine fp_aload_n (i := 0) (r := p0) dd_Mo_few_72 rfl rfl (fr_pc (pc' := 73) rfl ?_)
                refine fr_gR cl_11 42 (by decide) rfl sw_1114 dd_Mo_few_73 (fun x17 => fr_pc (pc' := 76) rfl ?_)
                refine fp_iload (i := 4) (x := b15) dd_Mo_few_76 rfl (fr_pc (pc' := 78) rfl ?_)
                refine fp_iconst (v := (1 : Int32)) dd_Mo_few_78 (by decide) (fr_pc (pc' := 79) rfl ?_)
                refine fp_iadd dd_Mo_few_79 (fr_pc (pc' := 80) rfl ?_)
                refine fp_dup2 dd_Mo_few_80 (fr_pc (pc' := 81) rfl ?_)
                refine fr_aL dd_Mo_few_81 (fun x18 => fr_pc (pc' := 82) rfl ?_)
                refine fp_aload_n (i := 0) (r := p0) dd_Mo_few_82 rfl rfl (fr_pc (pc' := 83) rfl ?_)
                refine fr_gR cl_11 42 (by decide) rfl sw_1114 dd_Mo_few_83 (fun x19 => fr_pc (pc' := 86) rfl ?_)
                refine fp_iload (i := 4) (x := b15) dd_Mo_few_86 rfl (fr_pc (pc' := 88) rfl ?_)
                refine fr_aL dd_Mo_few_88 (fun x20 => fr_pc (pc' := 89) rfl ?_)
                refine fp_aload_n (i := 0) (r := p0) dd_Mo_few_89 rfl rfl (fr_pc (pc' := 90) rfl ?_)
                refine fr_gR cl_11 2 (by decide) rfl sw_1074 dd_Mo_few_90 (fun x21 => fr_pc (pc' := 93) rfl ?_)
                refine fp_sipush (v := (225 : Int32)) dd_Mo_few_93 (by decide) (fr_pc (pc' := 96) rfl ?_)
                refine fr_aI0 dd_Mo_few_96 (fun x22 => fr_pc (pc' := 97) rfl ?_)
                refine fp_i2l dd_Mo_few_97 (fr_pc (pc' := 98) rfl ?_)
                refine fp_lmul dd_Mo_few_98 (fr_pc (pc' := 99) rfl ?_)
                refine fp_ldc2 (v := (10 : Int64)) dd_Mo_few_99 sw_1736 (fr_pc (pc' := 102) rfl ?_)
                refine fp_ldiv0 dd_Mo_few_102 (by decide) (fr_pc (pc' := 103) rfl ?_)
                refine fp_ladd dd_Mo_few_103 (fr_pc (pc' := 104) rfl ?_)
                refine fr_sL dd_Mo_few_104 (fr_pc (pc' := 105) rfl ?_)
                refine fp_aload_n (i := 0) (r := p0) dd_Mo_few_105 rfl rfl (fr_pc (pc' := 106) rfl ?_)
                refine fr_gR cl_11 42 (by decide) rfl sw_1114 dd_Mo_few_106 (fun x23 => fr_pc (pc' := 109) rfl ?_)
                refine fp_iload (i := 4) (x := b15) dd_Mo_few_109 rfl (fr_pc (pc' := 111) rfl ?_)
                refine fp_aload_n (i := 0) (r := p0) dd_Mo_few_111 rfl rfl (fr_pc (pc' := 112) rfl ?_)
                refine fr_gR cl_11 42 (by decide) rfl sw_1114 dd_Mo_few_112 (fun x24 => fr_pc (pc' := 115) rfl ?_)
                refine fp_iload (i := 4) (x := b15) dd_Mo_few_115 rfl (fr_pc (pc' := 117) rfl ?_)
                refine fr_aL dd_Mo_few_117 (fun x25 => fr_pc (pc' := 118) rfl ?_)
                refine fp_bipush (v := (10 : Int32)) dd_Mo_few_118 (by decide) (fr_pc (pc' := 120) rfl ?_)
                refine fp_aload_n (i := 0) (r := p0) dd_Mo_few_120 rfl rfl (fr_pc (pc' := 121) rfl ?_)
                refine fr_gR cl_11 2 (by decide) rfl sw_1074 dd_Mo_few_121 (fun x26 => fr_pc (pc' := 124) rfl ?_)
                refine fp_sipush (v := (225 : Int32)) dd_Mo_few_124 (by decide) (fr_pc (pc' := 127) rfl ?_)
                refine fr_aI0 dd_Mo_few_127 (fun x27 => fr_pc (pc' := 128) rfl ?_)
                refine fp_isub dd_Mo_few_128 (fr_pc (pc' := 129) rfl ?_)
                refine fp_i2l dd_Mo_few_129 (fr_pc (pc' := 130) rfl ?_)
                refine fp_lmul dd_Mo_few_130 (fr_pc (pc' := 131) rfl ?_)
                refine fp_ldc2 (v := (10 : Int64)) dd_Mo_few_131 sw_1736 (fr_pc (pc' := 134) rfl ?_)
                refine fp_ldiv0 dd_Mo_few_134 (by decide) (fr_pc (pc' := 135) rfl ?_)
                refine fr_sL dd_Mo_few_135 (fr_pc (pc' := 136) rfl ?_)
                refine fr_niinc (i := 4) (x := b15) (w := (-1 : Int32)) dd_Mo_few_136 rfl (by decide) (Nat.le_of_ble_eq_true rfl) (fun _ => c1_i rfl) (fun y28 => fr_to (pc' := 139) (env' := [some (sf_rv p0), some (.int p1), some (.int p2), some (.int b12), some (.int y28), none]) (stk' := []) rfl rfl rfl ?_)
                refine fp_goto (tgt := 67) dd_Mo_few_139 rfl ?_
                exact fr_ret rfl
            · refine fr_niinc (i := 3) (x := b12) (w := (1 : Int32)) dd_Mo_few_142 rfl (by decide) (Nat.le_of_ble_eq_true rfl) (fun _ => c1_i rfl) (fun y30 => fr_to (pc' := 145) (env' := [some (sf_rv p0), some (.int p1), some (.int p2), some (.int y30), none, none]) (stk' := []) rfl rfl rfl ?_)
              refine fp_goto (tgt := 57) dd_Mo_few_145 rfl ?_
              exact fr_ret rfl
        · refine fp_lconst (v := (0 : Int64)) dd_Mo_few_148 (by decide) (fr_pc (pc' := 149) rfl ?_)
          refine fp_lstore_n (i := 3) dd_Mo_few_149 rfl (Nat.le_of_ble_eq_true rfl) (fun _ => c1_i rfl) (fr_to (pc' := 150) (env' := [some (sf_rv p0), some (.int p1), some (.int p2), some (.long (0 : Int64)), none, none]) (stk' := []) rfl rfl rfl ?_)
          refine fp_iconst (v := (0 : Int32)) dd_Mo_few_150 (by decide) (fr_pc (pc' := 151) rfl ?_)
          refine fp_istore (i := 5) dd_Mo_few_151 (Nat.le_of_ble_eq_true rfl) (fun _ => c1_n rfl) (fr_to (pc' := 153) (env' := [some (sf_rv p0), some (.int p1), some (.int p2), some (.long (0 : Int64)), none, some (.int (0 : Int32))]) (stk' := []) rfl rfl rfl ?_)
          refine fr_to (pc' := 153) (env' := [some (sf_rv p0), some (.int p1), some (.int p2), some (.long (0 : Int64)), none, some (.int (0 : Int32))]) (stk' := []) rfl rfl rfl ?_
          refine fr_bnd (l1 := (fun (e38 : (Int64)) => sf_p 175 [some (sf_rv p0), some (.int p1), some (.int p2), some (.long e38), none, none] [])) (fr_loop (Lb := (fun (b32 : (Int64 × Int32)) => sf_p 153 [some (sf_rv p0), some (.int p1), some (.int p2), some (.long b32.1), none, some (.int b32.2)] [])) (fun b32 => ?_) _ _) (fun e38 => ?_)
          · refine fp_iload (i := 5) (x := b32.2) dd_Mo_few_153 rfl (fr_pc (pc' := 155) rfl ?_)
            refine fp_iload_n (i := 1) (x := p1) dd_Mo_few_155 rfl rfl (fr_pc (pc' := 156) rfl ?_)
            refine fr_icmp_ge (tgt := 175) dd_Mo_few_156 rfl (fun _ => ?_) (fun _ => ?_)
            · refine fr_wk [true, true, true, true, false, false] ?_
              exact fr_ret rfl
            · refine fr_pc (pc' := 159) rfl ?_
              refine fp_lload_n (i := 3) (x := b32.1) dd_Mo_few_159 rfl rfl (fr_pc (pc' := 160) rfl ?_)
              refine fp_aload_n (i := 0) (r := p0) dd_Mo_few_160 rfl rfl (fr_pc (pc' := 161) rfl ?_)
              refine fr_gR cl_11 42 (by decide) rfl sw_1114 dd_Mo_few_161 (fun x34 => fr_pc (pc' := 164) rfl ?_)
              refine fp_iload (i := 5) (x := b32.2) dd_Mo_few_164 rfl (fr_pc (pc' := 166) rfl ?_)
              refine fr_aL dd_Mo_few_166 (fun x35 => fr_pc (pc' := 167) rfl ?_)
              refine fp_ladd dd_Mo_few_167 (fr_pc (pc' := 168) rfl ?_)
              refine fr_nlstore_n (i := 3) dd_Mo_few_168 rfl (Nat.le_of_ble_eq_true rfl) (fun _ => c1_i rfl) (fun y36 => fr_to (pc' := 169) (env' := [some (sf_rv p0), some (.int p1), some (.int p2), some (.long y36), none, some (.int b32.2)]) (stk' := []) rfl rfl rfl ?_)
              refine fr_niinc (i := 5) (x := b32.2) (w := (1 : Int32)) dd_Mo_few_169 rfl (by decide) (Nat.le_of_ble_eq_true rfl) (fun _ => c1_n rfl) (fun y37 => fr_to (pc' := 172) (env' := [some (sf_rv p0), some (.int p1), some (.int p2), some (.long y36), none, some (.int y37)]) (stk' := []) rfl rfl rfl ?_)
              refine fp_goto (tgt := 153) dd_Mo_few_172 rfl ?_
              exact fr_ret rfl
          · refine fp_lload_n (i := 3) (x := e38) dd_Mo_few_175 rfl rfl (fr_pc (pc' := 176) rfl ?_)
            exact fr_lret (v := e38) rfl rfl dd_Mo_few_176
theorem mt_Mo_stopped : sf_Mt ({ cls := "SplitFaresModel", name := "stopped", desc := "()I" } : Jvm.MethodName) prog_13_method_132_code 1 (some .int) 0 := ⟨sw_1740, sw_12, ⟨by decide, by decide, by decide +kernel⟩, by decide⟩
theorem dd_Mo_stopped_0 : decode prog_13_method_132_code 0 = .ok (.aload_n 0, 1) := by decide +kernel
theorem dd_Mo_stopped_1 : decode prog_13_method_132_code 1 = .ok (.getfield 107, 3) := by decide +kernel
theorem dd_Mo_stopped_4 : decode prog_13_method_132_code 4 = .ok (.ireturn, 1) := by decide +kernel
def jx_Mo_stopped (p0 : Option Nat) : sf_M (Int32) :=
  sf_bnd (sf_gI 11 43 p0) fun x1 =>
  sf_ret x1
set_option maxRecDepth 20000 in
set_option maxHeartbeats 4000000 in
theorem ok_Mo_stopped (p0 : Option Nat) : sf_Ok ({ cls := "SplitFaresModel", name := "stopped", desc := "()I" } : Jvm.MethodName) prog_13_method_132_code 1 (some .int) 0 [sf_rv p0] (jx_Mo_stopped p0) (fun r => some (.int r)) := by
  refine sf_Ok.of (env := [some (sf_rv p0)]) (plainFor_of_name (by decide)) [false] (fun G => ⟨pk_r, trivial⟩) (Nat.le_of_ble_eq_true rfl) rfl (fun X => ?_)
  unfold jx_Mo_stopped
  refine fp_aload_n (i := 0) (r := p0) dd_Mo_stopped_0 rfl rfl (fr_pc (pc' := 1) rfl ?_)
  refine fr_gI cl_11 43 (by decide) rfl sw_1115 dd_Mo_stopped_1 (fun x1 => fr_pc (pc' := 4) rfl ?_)
  exact fr_iret (v := x1) rfl rfl dd_Mo_stopped_4
theorem mt_Mo_goesAlong : sf_Mt ({ cls := "SplitFaresModel", name := "goesAlong", desc := "(IZ)V" } : Jvm.MethodName) prog_13_method_134_code 5 none 2 := ⟨sw_1756, sw_12, ⟨by decide, by decide, by decide +kernel⟩, by decide⟩
theorem dd_Mo_goesAlong_0 : decode prog_13_method_134_code 0 = .ok (.aload_n 0, 1) := by decide +kernel
theorem dd_Mo_goesAlong_1 : decode prog_13_method_134_code 1 = .ok (.iconst 1, 1) := by decide +kernel
theorem dd_Mo_goesAlong_2 : decode prog_13_method_134_code 2 = .ok (.putfield 295, 3) := by decide +kernel
theorem dd_Mo_goesAlong_5 : decode prog_13_method_134_code 5 = .ok (.aload_n 0, 1) := by decide +kernel
theorem dd_Mo_goesAlong_6 : decode prog_13_method_134_code 6 = .ok (.iload_n 1, 1) := by decide +kernel
theorem dd_Mo_goesAlong_7 : decode prog_13_method_134_code 7 = .ok (.putfield 262, 3) := by decide +kernel
theorem dd_Mo_goesAlong_10 : decode prog_13_method_134_code 10 = .ok (.aload_n 0, 1) := by decide +kernel
theorem dd_Mo_goesAlong_11 : decode prog_13_method_134_code 11 = .ok (.aload_n 0, 1) := by decide +kernel
theorem dd_Mo_goesAlong_12 : decode prog_13_method_134_code 12 = .ok (.getfield 468, 3) := by decide +kernel
theorem dd_Mo_goesAlong_15 : decode prog_13_method_134_code 15 = .ok (.putfield 265, 3) := by decide +kernel
theorem dd_Mo_goesAlong_18 : decode prog_13_method_134_code 18 = .ok (.aload_n 0, 1) := by decide +kernel
theorem dd_Mo_goesAlong_19 : decode prog_13_method_134_code 19 = .ok (.aload_n 0, 1) := by decide +kernel
theorem dd_Mo_goesAlong_20 : decode prog_13_method_134_code 20 = .ok (.aload_n 0, 1) := by decide +kernel
theorem dd_Mo_goesAlong_21 : decode prog_13_method_134_code 21 = .ok (.getfield 265, 3) := by decide +kernel
theorem dd_Mo_goesAlong_24 : decode prog_13_method_134_code 24 = .ok (.invokevirtual 268, 3) := by decide +kernel
theorem dd_Mo_goesAlong_27 : decode prog_13_method_134_code 27 = .ok (.putfield 477, 3) := by decide +kernel
theorem dd_Mo_goesAlong_30 : decode prog_13_method_134_code 30 = .ok (.aload_n 0, 1) := by decide +kernel
theorem dd_Mo_goesAlong_31 : decode prog_13_method_134_code 31 = .ok (.dup, 1) := by decide +kernel
theorem dd_Mo_goesAlong_32 : decode prog_13_method_134_code 32 = .ok (.getfield 265, 3) := by decide +kernel
theorem dd_Mo_goesAlong_35 : decode prog_13_method_134_code 35 = .ok (.iconst 1, 1) := by decide +kernel
theorem dd_Mo_goesAlong_36 : decode prog_13_method_134_code 36 = .ok (.iadd, 1) := by decide +kernel
theorem dd_Mo_goesAlong_37 : decode prog_13_method_134_code 37 = .ok (.putfield 265, 3) := by decide +kernel
theorem dd_Mo_goesAlong_40 : decode prog_13_method_134_code 40 = .ok (.aload_n 0, 1) := by decide +kernel
theorem dd_Mo_goesAlong_41 : decode prog_13_method_134_code 41 = .ok (.iconst 1, 1) := by decide +kernel
theorem dd_Mo_goesAlong_42 : decode prog_13_method_134_code 42 = .ok (.putfield 480, 3) := by decide +kernel
theorem dd_Mo_goesAlong_45 : decode prog_13_method_134_code 45 = .ok (.aload_n 0, 1) := by decide +kernel
theorem dd_Mo_goesAlong_46 : decode prog_13_method_134_code 46 = .ok (.getfield 477, 3) := by decide +kernel
theorem dd_Mo_goesAlong_49 : decode prog_13_method_134_code 49 = .ok (.bipush 23, 2) := by decide +kernel
theorem dd_Mo_goesAlong_51 : decode prog_13_method_134_code 51 = .ok (.if_icmp .ne 7, 3) := by decide +kernel
theorem dd_Mo_goesAlong_54 : decode prog_13_method_134_code 54 = .ok (.iconst 0, 1) := by decide +kernel
theorem dd_Mo_goesAlong_55 : decode prog_13_method_134_code 55 = .ok (.goto 17, 3) := by decide +kernel
theorem dd_Mo_goesAlong_58 : decode prog_13_method_134_code 58 = .ok (.aload_n 0, 1) := by decide +kernel
theorem dd_Mo_goesAlong_59 : decode prog_13_method_134_code 59 = .ok (.getfield 477, 3) := by decide +kernel
theorem dd_Mo_goesAlong_62 : decode prog_13_method_134_code 62 = .ok (.bipush 22, 2) := by decide +kernel
theorem dd_Mo_goesAlong_64 : decode prog_13_method_134_code 64 = .ok (.if_icmp .ne 7, 3) := by decide +kernel
theorem dd_Mo_goesAlong_67 : decode prog_13_method_134_code 67 = .ok (.iconst 1, 1) := by decide +kernel
theorem dd_Mo_goesAlong_68 : decode prog_13_method_134_code 68 = .ok (.goto 4, 3) := by decide +kernel
theorem dd_Mo_goesAlong_71 : decode prog_13_method_134_code 71 = .ok (.iconst 2, 1) := by decide +kernel
theorem dd_Mo_goesAlong_72 : decode prog_13_method_134_code 72 = .ok (.istore_n 3, 1) := by decide +kernel
theorem dd_Mo_goesAlong_73 : decode prog_13_method_134_code 73 = .ok (.iconst 0, 1) := by decide +kernel
theorem dd_Mo_goesAlong_74 : decode prog_13_method_134_code 74 = .ok (.istore 4, 2) := by decide +kernel
theorem dd_Mo_goesAlong_76 : decode prog_13_method_134_code 76 = .ok (.iload 4, 2) := by decide +kernel
theorem dd_Mo_goesAlong_78 : decode prog_13_method_134_code 78 = .ok (.iload_n 3, 1) := by decide +kernel
theorem dd_Mo_goesAlong_79 : decode prog_13_method_134_code 79 = .ok (.if_icmp .ge 64, 3) := by decide +kernel
theorem dd_Mo_goesAlong_82 : decode prog_13_method_134_code 82 = .ok (.iload 4, 2) := by decide +kernel
theorem dd_Mo_goesAlong_84 : decode prog_13_method_134_code 84 = .ok (.ifCond .le 13, 3) := by decide +kernel
theorem dd_Mo_goesAlong_87 : decode prog_13_method_134_code 87 = .ok (.aload_n 0, 1) := by decide +kernel
theorem dd_Mo_goesAlong_88 : decode prog_13_method_134_code 88 = .ok (.dup, 1) := by decide +kernel
theorem dd_Mo_goesAlong_89 : decode prog_13_method_134_code 89 = .ok (.getfield 265, 3) := by decide +kernel
theorem dd_Mo_goesAlong_92 : decode prog_13_method_134_code 92 = .ok (.iconst 1, 1) := by decide +kernel
theorem dd_Mo_goesAlong_93 : decode prog_13_method_134_code 93 = .ok (.iadd, 1) := by decide +kernel
theorem dd_Mo_goesAlong_94 : decode prog_13_method_134_code 94 = .ok (.putfield 265, 3) := by decide +kernel
theorem dd_Mo_goesAlong_97 : decode prog_13_method_134_code 97 = .ok (.aload_n 0, 1) := by decide +kernel
theorem dd_Mo_goesAlong_98 : decode prog_13_method_134_code 98 = .ok (.iconst 0, 1) := by decide +kernel
theorem dd_Mo_goesAlong_99 : decode prog_13_method_134_code 99 = .ok (.putfield 275, 3) := by decide +kernel
theorem dd_Mo_goesAlong_102 : decode prog_13_method_134_code 102 = .ok (.aload_n 0, 1) := by decide +kernel
theorem dd_Mo_goesAlong_103 : decode prog_13_method_134_code 103 = .ok (.getfield 110, 3) := by decide +kernel
theorem dd_Mo_goesAlong_106 : decode prog_13_method_134_code 106 = .ok (.iload 4, 2) := by decide +kernel
theorem dd_Mo_goesAlong_108 : decode prog_13_method_134_code 108 = .ok (.aload_n 0, 1) := by decide +kernel
theorem dd_Mo_goesAlong_109 : decode prog_13_method_134_code 109 = .ok (.iload_n 2, 1) := by decide +kernel
theorem dd_Mo_goesAlong_110 : decode prog_13_method_134_code 110 = .ok (.invokevirtual 292, 3) := by decide +kernel
theorem dd_Mo_goesAlong_113 : decode prog_13_method_134_code 113 = .ok (.lastore, 1) := by decide +kernel
theorem dd_Mo_goesAlong_114 : decode prog_13_method_134_code 114 = .ok (.aload_n 0, 1) := by decide +kernel
theorem dd_Mo_goesAlong_115 : decode prog_13_method_134_code 115 = .ok (.aload_n 0, 1) := by decide +kernel
theorem dd_Mo_goesAlong_116 : decode prog_13_method_134_code 116 = .ok (.getfield 480, 3) := by decide +kernel
theorem dd_Mo_goesAlong_119 : decode prog_13_method_134_code 119 = .ok (.ifCond .eq 14, 3) := by decide +kernel
theorem dd_Mo_goesAlong_122 : decode prog_13_method_134_code 122 = .ok (.aload_n 0, 1) := by decide +kernel
theorem dd_Mo_goesAlong_123 : decode prog_13_method_134_code 123 = .ok (.getfield 275, 3) := by decide +kernel
theorem dd_Mo_goesAlong_126 : decode prog_13_method_134_code 126 = .ok (.ifCond .ne 7, 3) := by decide +kernel
theorem dd_Mo_goesAlong_129 : decode prog_13_method_134_code 129 = .ok (.iconst 1, 1) := by decide +kernel
theorem dd_Mo_goesAlong_130 : decode prog_13_method_134_code 130 = .ok (.goto 4, 3) := by decide +kernel
theorem dd_Mo_goesAlong_133 : decode prog_13_method_134_code 133 = .ok (.iconst 0, 1) := by decide +kernel
theorem dd_Mo_goesAlong_134 : decode prog_13_method_134_code 134 = .ok (.putfield 480, 3) := by decide +kernel
theorem dd_Mo_goesAlong_137 : decode prog_13_method_134_code 137 = .ok (.iinc 4 1, 3) := by decide +kernel
theorem dd_Mo_goesAlong_140 : decode prog_13_method_134_code 140 = .ok (.goto (-64), 3) := by decide +kernel
theorem dd_Mo_goesAlong_143 : decode prog_13_method_134_code 143 = .ok (.aload_n 0, 1) := by decide +kernel
theorem dd_Mo_goesAlong_144 : decode prog_13_method_134_code 144 = .ok (.iconst 1, 1) := by decide +kernel
theorem dd_Mo_goesAlong_145 : decode prog_13_method_134_code 145 = .ok (.putfield 483, 3) := by decide +kernel
theorem dd_Mo_goesAlong_148 : decode prog_13_method_134_code 148 = .ok (.aload_n 0, 1) := by decide +kernel
theorem dd_Mo_goesAlong_149 : decode prog_13_method_134_code 149 = .ok (.bipush 24, 2) := by decide +kernel
theorem dd_Mo_goesAlong_151 : decode prog_13_method_134_code 151 = .ok (.invokevirtual 289, 3) := by decide +kernel
theorem dd_Mo_goesAlong_154 : decode prog_13_method_134_code 154 = .ok (.ifCond .eq 30, 3) := by decide +kernel
theorem dd_Mo_goesAlong_157 : decode prog_13_method_134_code 157 = .ok (.aload_n 0, 1) := by decide +kernel
theorem dd_Mo_goesAlong_158 : decode prog_13_method_134_code 158 = .ok (.aload_n 0, 1) := by decide +kernel
theorem dd_Mo_goesAlong_159 : decode prog_13_method_134_code 159 = .ok (.getfield 32, 3) := by decide +kernel
theorem dd_Mo_goesAlong_162 : decode prog_13_method_134_code 162 = .ok (.sipush 3038, 3) := by decide +kernel
theorem dd_Mo_goesAlong_165 : decode prog_13_method_134_code 165 = .ok (.aload_n 0, 1) := by decide +kernel
theorem dd_Mo_goesAlong_166 : decode prog_13_method_134_code 166 = .ok (.getfield 265, 3) := by decide +kernel
theorem dd_Mo_goesAlong_169 : decode prog_13_method_134_code 169 = .ok (.iadd, 1) := by decide +kernel
theorem dd_Mo_goesAlong_170 : decode prog_13_method_134_code 170 = .ok (.iaload, 1) := by decide +kernel
theorem dd_Mo_goesAlong_171 : decode prog_13_method_134_code 171 = .ok (.putfield 483, 3) := by decide +kernel
theorem dd_Mo_goesAlong_174 : decode prog_13_method_134_code 174 = .ok (.aload_n 0, 1) := by decide +kernel
theorem dd_Mo_goesAlong_175 : decode prog_13_method_134_code 175 = .ok (.dup, 1) := by decide +kernel
theorem dd_Mo_goesAlong_176 : decode prog_13_method_134_code 176 = .ok (.getfield 265, 3) := by decide +kernel
theorem dd_Mo_goesAlong_179 : decode prog_13_method_134_code 179 = .ok (.iconst 1, 1) := by decide +kernel
theorem dd_Mo_goesAlong_180 : decode prog_13_method_134_code 180 = .ok (.iadd, 1) := by decide +kernel
theorem dd_Mo_goesAlong_181 : decode prog_13_method_134_code 181 = .ok (.putfield 265, 3) := by decide +kernel
theorem dd_Mo_goesAlong_184 : decode prog_13_method_134_code 184 = .ok (.aload_n 0, 1) := by decide +kernel
theorem dd_Mo_goesAlong_185 : decode prog_13_method_134_code 185 = .ok (.iconst 0, 1) := by decide +kernel
theorem dd_Mo_goesAlong_186 : decode prog_13_method_134_code 186 = .ok (.putfield 275, 3) := by decide +kernel
theorem dd_Mo_goesAlong_189 : decode prog_13_method_134_code 189 = .ok (.aload_n 0, 1) := by decide +kernel
theorem dd_Mo_goesAlong_190 : decode prog_13_method_134_code 190 = .ok (.aload_n 0, 1) := by decide +kernel
theorem dd_Mo_goesAlong_191 : decode prog_13_method_134_code 191 = .ok (.iconst 3, 1) := by decide +kernel
theorem dd_Mo_goesAlong_192 : decode prog_13_method_134_code 192 = .ok (.invokevirtual 289, 3) := by decide +kernel
theorem dd_Mo_goesAlong_195 : decode prog_13_method_134_code 195 = .ok (.ifCond .eq 11, 3) := by decide +kernel
theorem dd_Mo_goesAlong_198 : decode prog_13_method_134_code 198 = .ok (.aload_n 0, 1) := by decide +kernel
theorem dd_Mo_goesAlong_199 : decode prog_13_method_134_code 199 = .ok (.iload_n 2, 1) := by decide +kernel
theorem dd_Mo_goesAlong_200 : decode prog_13_method_134_code 200 = .ok (.invokevirtual 320, 3) := by decide +kernel
theorem dd_Mo_goesAlong_203 : decode prog_13_method_134_code 203 = .ok (.ifCond .eq 7, 3) := by decide +kernel
theorem dd_Mo_goesAlong_210 : decode prog_13_method_134_code 210 = .ok (.iconst 0, 1) := by decide +kernel
theorem dd_Mo_goesAlong_206 : decode prog_13_method_134_code 206 = .ok (.iconst 1, 1) := by decide +kernel
theorem dd_Mo_goesAlong_207 : decode prog_13_method_134_code 207 = .ok (.goto 4, 3) := by decide +kernel
theorem dd_Mo_goesAlong_211 : decode prog_13_method_134_code 211 = .ok (.putfield 486, 3) := by decide +kernel
theorem dd_Mo_goesAlong_214 : decode prog_13_method_134_code 214 = .ok (.aload_n 0, 1) := by decide +kernel
theorem dd_Mo_goesAlong_215 : decode prog_13_method_134_code 215 = .ok (.aload_n 0, 1) := by decide +kernel
theorem dd_Mo_goesAlong_216 : decode prog_13_method_134_code 216 = .ok (.getfield 486, 3) := by decide +kernel
theorem dd_Mo_goesAlong_219 : decode prog_13_method_134_code 219 = .ok (.ifCond .eq 14, 3) := by decide +kernel
theorem dd_Mo_goesAlong_222 : decode prog_13_method_134_code 222 = .ok (.aload_n 0, 1) := by decide +kernel
theorem dd_Mo_goesAlong_223 : decode prog_13_method_134_code 223 = .ok (.getfield 275, 3) := by decide +kernel
theorem dd_Mo_goesAlong_226 : decode prog_13_method_134_code 226 = .ok (.ifCond .ne 7, 3) := by decide +kernel
theorem dd_Mo_goesAlong_229 : decode prog_13_method_134_code 229 = .ok (.iconst 1, 1) := by decide +kernel
theorem dd_Mo_goesAlong_230 : decode prog_13_method_134_code 230 = .ok (.goto 4, 3) := by decide +kernel
theorem dd_Mo_goesAlong_233 : decode prog_13_method_134_code 233 = .ok (.iconst 0, 1) := by decide +kernel
theorem dd_Mo_goesAlong_234 : decode prog_13_method_134_code 234 = .ok (.putfield 486, 3) := by decide +kernel
theorem dd_Mo_goesAlong_237 : decode prog_13_method_134_code 237 = .ok (.aload_n 0, 1) := by decide +kernel
theorem dd_Mo_goesAlong_238 : decode prog_13_method_134_code 238 = .ok (.dup, 1) := by decide +kernel
theorem dd_Mo_goesAlong_239 : decode prog_13_method_134_code 239 = .ok (.getfield 265, 3) := by decide +kernel
theorem dd_Mo_goesAlong_242 : decode prog_13_method_134_code 242 = .ok (.iconst 1, 1) := by decide +kernel
theorem dd_Mo_goesAlong_243 : decode prog_13_method_134_code 243 = .ok (.iadd, 1) := by decide +kernel
theorem dd_Mo_goesAlong_244 : decode prog_13_method_134_code 244 = .ok (.putfield 265, 3) := by decide +kernel
theorem dd_Mo_goesAlong_247 : decode prog_13_method_134_code 247 = .ok (.return_, 1) := by decide +kernel
def jx_Mo_goesAlong (p0 : Option Nat) (p1 : Int32) (p2 : Int32) : sf_M (Unit) :=
  sf_bnd (sf_pI 11 25 p0 (1 : Int32)) fun _ =>
  sf_bnd (sf_pI 11 23 p0 p1) fun _ =>
  sf_bnd (sf_gI 11 44 p0) fun x1 =>
  sf_bnd (sf_pI 11 22 p0 x1) fun _ =>
  sf_bnd (sf_gI 11 22 p0) fun x2 =>
  sf_bnd (sf_rc 11 p0 (jx_Mo_codeAt p0 x2)) fun x3 =>
  sf_bnd (sf_pI 11 46 p0 x3) fun _ =>
  sf_bnd (sf_gI 11 22 p0) fun x4 =>
  sf_bnd (sf_pI 11 22 p0 (x4 + (1 : Int32))) fun _ =>
  sf_bnd (sf_pI 11 47 p0 (1 : Int32)) fun _ =>
  sf_bnd (sf_gI 11 46 p0) fun x5 =>
  sf_bnd (α := (Int32)) (
  if x5 = (23 : Int32) then (
  sf_ret (0 : Int32)
  ) else (
  sf_bnd (sf_gI 11 46 p0) fun x7 =>
  if x7 = (22 : Int32) then (
  sf_ret (1 : Int32)
  ) else (
  sf_ret (2 : Int32)
  )
  )
  ) (fun v9 =>
  sf_bnd (sf_loop (β := (Int32)) (γ := (Unit)) (fun b10 =>
  if v9 ≤ b10 then (
  sf_ret (.inr ())
  ) else (
  sf_bnd (α := (Unit)) (
  if b10 ≤ 0 then (
  sf_ret ()
  ) else (
  sf_bnd (sf_gI 11 22 p0) fun x13 =>
  sf_bnd (sf_pI 11 22 p0 (x13 + (1 : Int32))) fun _ =>
  sf_ret ()
  )
  ) (fun v14 =>
  sf_bnd (sf_pI 11 24 p0 (0 : Int32)) fun _ =>
  sf_bnd (sf_gR 11 49 p0) fun x15 =>
  sf_bnd (sf_rc 11 p0 (jx_G4 sf_deep 0 p0 p2)) fun x16 =>
  sf_bnd (sf_sL x15 b10 x16) fun _ =>
  sf_bnd (sf_gI 11 47 p0) fun x17 =>
  sf_bnd (α := (Int32)) (
  sf_or (α := (Int32)) (β := (Unit)) (
  if x17 = 0 then (
  sf_ret (.inr ())
  ) else (
  sf_bnd (sf_gI 11 24 p0) fun x19 =>
  if x19 = 0 then (
  sf_ret (.inl (1 : Int32))
  ) else (
  sf_ret (.inr ())
  )
  )
  ) (fun v21 =>
  sf_ret (0 : Int32)
  )
  ) (fun v22 =>
  sf_bnd (sf_pZ 11 47 p0 v22) fun _ =>
  sf_bnd (sf_ret (b10 + (1 : Int32))) fun y23 =>
  sf_ret (.inl y23)
  )
  )
  )
  ) sf_fuel (0 : Int32)) (fun e24 =>
  sf_bnd (sf_pI 11 45 p0 (1 : Int32)) fun _ =>
  sf_bnd (sf_rc 11 p0 (jx_Mo_passes0 p0 (24 : Int32))) fun x25 =>
  sf_bnd (α := (Unit)) (
  if x25 = 0 then (
  sf_ret ()
  ) else (
  sf_bnd (sf_gR 11 2 p0) fun x27 =>
  sf_bnd (sf_gI 11 22 p0) fun x28 =>
  sf_bnd (sf_aI 0 x27 ((3038 : Int32) + x28)) fun x29 =>
  sf_bnd (sf_pI 11 45 p0 x29) fun _ =>
  sf_bnd (sf_gI 11 22 p0) fun x30 =>
  sf_bnd (sf_pI 11 22 p0 (x30 + (1 : Int32))) fun _ =>
  sf_ret ()
  )
  ) (fun v31 =>
  sf_bnd (sf_pI 11 24 p0 (0 : Int32)) fun _ =>
  sf_bnd (sf_rc 11 p0 (jx_Mo_passes0 p0 (3 : Int32))) fun x32 =>
  sf_bnd (α := (Int32)) (
  sf_or (α := (Int32)) (β := (Unit)) (
  if x32 = 0 then (
  sf_ret (.inr ())
  ) else (
  sf_bnd (sf_rc 11 p0 (jx_G5 sf_deep 0 p0 p2)) fun x34 =>
  if x34 = 0 then (
  sf_ret (.inl (0 : Int32))
  ) else (
  sf_ret (.inr ())
  )
  )
  ) (fun v36 =>
  sf_ret (1 : Int32)
  )
  ) (fun v37 =>
  sf_bnd (sf_pZ 11 48 p0 v37) fun _ =>
  sf_bnd (sf_gI 11 48 p0) fun x38 =>
  sf_bnd (α := (Int32)) (
  sf_or (α := (Int32)) (β := (Unit)) (
  if x38 = 0 then (
  sf_ret (.inr ())
  ) else (
  sf_bnd (sf_gI 11 24 p0) fun x40 =>
  if x40 = 0 then (
  sf_ret (.inl (1 : Int32))
  ) else (
  sf_ret (.inr ())
  )
  )
  ) (fun v42 =>
  sf_ret (0 : Int32)
  )
  ) (fun v43 =>
  sf_bnd (sf_pZ 11 48 p0 v43) fun _ =>
  sf_bnd (sf_gI 11 22 p0) fun x44 =>
  sf_bnd (sf_pI 11 22 p0 (x44 + (1 : Int32))) fun _ =>
  sf_ret ()
  )
  )
  )
  )
  )
set_option maxRecDepth 20000 in
set_option maxHeartbeats 4000000 in
theorem ok_Mo_goesAlong (p0 : Option Nat) (p1 : Int32) (p2 : Int32) : sf_Ok ({ cls := "SplitFaresModel", name := "goesAlong", desc := "(IZ)V" } : Jvm.MethodName) prog_13_method_134_code 5 none 205 [sf_rv p0, .int p1, .int p2] (jx_Mo_goesAlong p0 p1 p2) (fun _ => none) := by
  refine sf_Ok.of (env := [some (sf_rv p0), some (.int p1), some (.int p2), none, none]) (plainFor_of_name (by decide)) [false, false, false] (fun G => ⟨pk_r, pk_i, pk_i, trivial⟩) (Nat.le_of_ble_eq_true rfl) rfl (fun X => ?_)
  unfold jx_Mo_goesAlong
  refine fp_aload_n (i := 0) (r := p0) dd_Mo_goesAlong_0 rfl rfl (fr_pc (pc' := 1) rfl ?_)
  refine fp_iconst (v := (1 : Int32)) dd_Mo_goesAlong_1 (by decide) (fr_pc (pc' := 2) rfl ?_)
  refine fr_pI cl_11 25 (by decide) rfl sw_1097 rfl ⟨rfl, rfl⟩ dd_Mo_goesAlong_2 (fr_pc (pc' := 5) rfl ?_)
  refine fp_aload_n (i := 0) (r := p0) dd_Mo_goesAlong_5 rfl rfl (fr_pc (pc' := 6) rfl ?_)
  refine fp_iload_n (i := 1) (x := p1) dd_Mo_goesAlong_6 rfl rfl (fr_pc (pc' := 7) rfl ?_)
  refine fr_pI cl_11 23 (by decide) rfl sw_1095 rfl ⟨rfl, rfl⟩ dd_Mo_goesAlong_7 (fr_pc (pc' := 10) rfl ?_)
  refine fp_aload_n (i := 0) (r := p0) dd_Mo_goesAlong_10 rfl rfl (fr_pc (pc' := 11) rfl ?_)
  refine fp_aload_n (i := 0) (r := p0) dd_Mo_goesAlong_11 rfl rfl (fr_pc (pc' := 12) rfl ?_)
  refine fr_gI cl_11 44 (by decide) rfl sw_1116 dd_Mo_goesAlong_12 (fun x1 => fr_pc (pc' := 15) rfl ?_)
  refine fr_pI cl_11 22 (by decide) rfl sw_1094 rfl ⟨rfl, rfl⟩ dd_Mo_goesAlong_15 (fr_pc (pc' := 18) rfl ?_)
  refine fp_aload_n (i := 0) (r := p0) dd_Mo_goesAlong_18 rfl rfl (fr_pc (pc' := 19) rfl ?_)
  refine fp_aload_n (i := 0) (r := p0) dd_Mo_goesAlong_19 rfl rfl (fr_pc (pc' := 20) rfl ?_)
  refine fp_aload_n (i := 0) (r := p0) dd_Mo_goesAlong_20 rfl rfl (fr_pc (pc' := 21) rfl ?_)
  refine fr_gI cl_11 22 (by decide) rfl sw_1094 dd_Mo_goesAlong_21 (fun x2 => fr_pc (pc' := 24) rfl ?_)
  refine fr_callV (stk := [sf_rv p0]) (As := [.int x2]) cl_11 (ok_Mo_codeAt p0 x2) mt_Mo_codeAt rfl rfl sw_1445 sw_1447 sp_56 (by decide) (Nat.le_of_ble_eq_true rfl) dd_Mo_goesAlong_24 (fun x3 => fr_to (pc' := 27) (env' := [some (sf_rv p0), some (.int p1), some (.int p2), none, none]) (stk' := [.int x3, sf_rv p0]) rfl rfl rfl ?_)
  refine fr_pI cl_11 46 (by decide) rfl sw_1118 rfl ⟨rfl, rfl⟩ dd_Mo_goesAlong_27 (fr_pc (pc' := 30) rfl ?_)
  refine fp_aload_n (i := 0) (r := p0) dd_Mo_goesAlong_30 rfl rfl (fr_pc (pc' := 31) rfl ?_)
  refine fp_dup_r dd_Mo_goesAlong_31 (fr_pc (pc' := 32) rfl ?_)
  refine fr_gI cl_11 22 (by decide) rfl sw_1094 dd_Mo_goesAlong_32 (fun x4 => fr_pc (pc' := 35) rfl ?_)
  refine fp_iconst (v := (1 : Int32)) dd_Mo_goesAlong_35 (by decide) (fr_pc (pc' := 36) rfl ?_)
  refine fp_iadd dd_Mo_goesAlong_36 (fr_pc (pc' := 37) rfl ?_)
  refine fr_pI cl_11 22 (by decide) rfl sw_1094 rfl ⟨rfl, rfl⟩ dd_Mo_goesAlong_37 (fr_pc (pc' := 40) rfl ?_)
  refine fp_aload_n (i := 0) (r := p0) dd_Mo_goesAlong_40 rfl rfl (fr_pc (pc' := 41) rfl ?_)
  refine fp_iconst (v := (1 : Int32)) dd_Mo_goesAlong_41 (by decide) (fr_pc (pc' := 42) rfl ?_)
  refine fr_pI cl_11 47 (by decide) rfl sw_1119 rfl ⟨rfl, rfl⟩ dd_Mo_goesAlong_42 (fr_pc (pc' := 45) rfl ?_)
  refine fp_aload_n (i := 0) (r := p0) dd_Mo_goesAlong_45 rfl rfl (fr_pc (pc' := 46) rfl ?_)
  refine fr_gI cl_11 46 (by decide) rfl sw_1118 dd_Mo_goesAlong_46 (fun x5 => fr_pc (pc' := 49) rfl ?_)
  refine fp_bipush (v := (23 : Int32)) dd_Mo_goesAlong_49 (by decide) (fr_pc (pc' := 51) rfl ?_)
  refine fr_bnd (l1 := (fun (v9 : (Int32)) => sf_p 72 [some (sf_rv p0), some (.int p1), some (.int p2), none, none] [.int v9])) ?_ (fun v9 => ?_)
  · refine fr_icmp_ne (tgt := 58) dd_Mo_goesAlong_51 rfl (fun _ => ?_) (fun _ => ?_)
    · refine fr_pc (pc' := 54) rfl ?_
      refine fp_iconst (v := (0 : Int32)) dd_Mo_goesAlong_54 (by decide) (fr_pc (pc' := 55) rfl ?_)
      refine fp_goto (tgt := 72) dd_Mo_goesAlong_55 rfl ?_
      exact fr_ret rfl
    · refine fp_aload_n (i := 0) (r := p0) dd_Mo_goesAlong_58 rfl rfl (fr_pc (pc' := 59) rfl ?_)
      refine fr_gI cl_11 46 (by decide) rfl sw_1118 dd_Mo_goesAlong_59 (fun x7 => fr_pc (pc' := 62) rfl ?_)
      refine fp_bipush (v := (22 : Int32)) dd_Mo_goesAlong_62 (by decide) (fr_pc (pc' := 64) rfl ?_)
      refine fr_icmp_ne (tgt := 71) dd_Mo_goesAlong_64 rfl (fun _ => ?_) (fun _ => ?_)
      · refine fr_pc (pc' := 67) rfl ?_
        refine fp_iconst (v := (1 : Int32)) dd_Mo_goesAlong_67 (by decide) (fr_pc (pc' := 68) rfl ?_)
        refine fp_goto (tgt := 72) dd_Mo_goesAlong_68 rfl ?_
        exact fr_ret rfl
      · refine fp_iconst (v := (2 : Int32)) dd_Mo_goesAlong_71 (by decide) (fr_pc (pc' := 72) rfl ?_)
        exact fr_ret rfl
  · refine fp_istore_n (i := 3) dd_Mo_goesAlong_72 rfl (Nat.le_of_ble_eq_true rfl) (fun _ => c1_i rfl) (fr_to (pc' := 73) (env' := [some (sf_rv p0), some (.int p1), some (.int p2), some (.int v9), none]) (stk' := []) rfl rfl rfl ?_)
    refine fp_iconst (v := (0 : Int32)) dd_Mo_goesAlong_73 (by decide) (fr_pc (pc' := 74) rfl ?_)
    refine fp_istore (i := 4) dd_Mo_goesAlong_74 (Nat.le_of_ble_eq_true rfl) (fun _ => c1_i rfl) (fr_to (pc' := 76) (env' := [some (sf_rv p0), some (.int p1), some (.int p2), some (.int v9), some (.int (0 : Int32))]) (stk' := []) rfl rfl rfl ?_)
    refine fr_to (pc' := 76) (env' := [some (sf_rv p0), some (.int p1), some (.int p2), some (.int v9), some (.int (0 : Int32))]) (stk' := []) rfl rfl rfl ?_
    refine fr_bnd (l1 := (fun (e24 : (Unit)) => sf_p 143 [some (sf_rv p0), some (.int p1), some (.int p2), some (.int v9), none] [])) (fr_loop (Lb := (fun (b10 : (Int32)) => sf_p 76 [some (sf_rv p0), some (.int p1), some (.int p2), some (.int v9), some (.int b10)] [])) (fun b10 => ?_) _ _) (fun e24 => ?_)
    · refine fp_iload (i := 4) (x := b10) dd_Mo_goesAlong_76 rfl (fr_pc (pc' := 78) rfl ?_)
      refine fp_iload_n (i := 3) (x := v9) dd_Mo_goesAlong_78 rfl rfl (fr_pc (pc' := 79) rfl ?_)
      refine fr_icmp_ge (tgt := 143) dd_Mo_goesAlong_79 rfl (fun _ => ?_) (fun _ => ?_)
      · refine fr_wk [true, true, true, true, false] ?_
        exact fr_ret rfl
      · refine fr_pc (pc' := 82) rfl ?_
        refine fp_iload (i := 4) (x := b10) dd_Mo_goesAlong_82 rfl (fr_pc (pc' := 84) rfl ?_)
        refine fr_bnd (l1 := (fun (v14 : (Unit)) => sf_p 97 [some (sf_rv p0), some (.int p1), some (.int p2), some (.int v9), some (.int b10)] [])) ?_ (fun v14 => ?_)
        · refine fr_if_le (tgt := 97) dd_Mo_goesAlong_84 rfl (fun _ => ?_) (fun _ => ?_)
          · exact fr_ret rfl
          · refine fr_pc (pc' := 87) rfl ?_
            refine fp_aload_n (i := 0) (r := p0) dd_Mo_goesAlong_87 rfl rfl (fr_pc (pc' := 88) rfl ?_)
            refine fp_dup_r dd_Mo_goesAlong_88 (fr_pc (pc' := 89) rfl ?_)
            refine fr_gI cl_11 22 (by decide) rfl sw_1094 dd_Mo_goesAlong_89 (fun x13 => fr_pc (pc' := 92) rfl ?_)
            refine fp_iconst (v := (1 : Int32)) dd_Mo_goesAlong_92 (by decide) (fr_pc (pc' := 93) rfl ?_)
            refine fp_iadd dd_Mo_goesAlong_93 (fr_pc (pc' := 94) rfl ?_)
            refine fr_pI cl_11 22 (by decide) rfl sw_1094 rfl ⟨rfl, rfl⟩ dd_Mo_goesAlong_94 (fr_pc (pc' := 97) rfl ?_)
            exact fr_ret rfl
        · refine fp_aload_n (i := 0) (r := p0) dd_Mo_goesAlong_97 rfl rfl (fr_pc (pc' := 98) rfl ?_)
          refine fp_iconst (v := (0 : Int32)) dd_Mo_goesAlong_98 (by decide) (fr_pc (pc' := 99) rfl ?_)
          refine fr_pI cl_11 24 (by decide) rfl sw_1096 rfl ⟨rfl, rfl⟩ dd_Mo_goesAlong_99 (fr_pc (pc' := 102) rfl ?_)
          refine fp_aload_n (i := 0) (r := p0) dd_Mo_goesAlong_102 rfl rfl (fr_pc (pc' := 103) rfl ?_)
          refine fr_gR cl_11 49 (by decide) rfl sw_1121 dd_Mo_goesAlong_103 (fun x15 => fr_pc (pc' := 106) rfl ?_)
          refine fp_iload (i := 4) (x := b10) dd_Mo_goesAlong_106 rfl (fr_pc (pc' := 108) rfl ?_)
          refine fp_aload_n (i := 0) (r := p0) dd_Mo_goesAlong_108 rfl rfl (fr_pc (pc' := 109) rfl ?_)
          refine fp_iload_n (i := 2) (x := p2) dd_Mo_goesAlong_109 rfl rfl (fr_pc (pc' := 110) rfl ?_)
          refine fr_callV (stk := [.int b10, sf_rv x15]) (As := [.int p2]) cl_11 (ok_Mo_sumOf sf_deep p0 p2) mt_Mo_sumOf rfl rfl sw_1449 sw_1451 sp_57 (by decide) (Nat.le_of_ble_eq_true rfl) dd_Mo_goesAlong_110 (fun x16 => fr_to (pc' := 113) (env' := [some (sf_rv p0), some (.int p1), some (.int p2), some (.int v9), some (.int b10)]) (stk' := [.long x16, .int b10, sf_rv x15]) rfl rfl rfl ?_)
          refine fr_sL dd_Mo_goesAlong_113 (fr_pc (pc' := 114) rfl ?_)
          refine fp_aload_n (i := 0) (r := p0) dd_Mo_goesAlong_114 rfl rfl (fr_pc (pc' := 115) rfl ?_)
          refine fp_aload_n (i := 0) (r := p0) dd_Mo_goesAlong_115 rfl rfl (fr_pc (pc' := 116) rfl ?_)
          refine fr_gI cl_11 47 (by decide) rfl sw_1119 dd_Mo_goesAlong_116 (fun x17 => fr_pc (pc' := 119) rfl ?_)
          refine fr_bnd (l1 := (fun (v22 : (Int32)) => sf_p 134 [some (sf_rv p0), some (.int p1), some (.int p2), some (.int v9), some (.int b10)] [.int v22, sf_rv p0])) ?_ (fun v22 => ?_)
          · refine fr_or (l1 := (fun (v21 : (Unit)) => sf_p 133 [some (sf_rv p0), some (.int p1), some (.int p2), some (.int v9), some (.int b10)] [sf_rv p0])) ?_ (fun v21 => ?_)
            · refine fr_if_eq (tgt := 133) dd_Mo_goesAlong_119 rfl (fun _ => ?_) (fun _ => ?_)
              · exact fr_ret rfl
              · refine fr_pc (pc' := 122) rfl ?_
                refine fp_aload_n (i := 0) (r := p0) dd_Mo_goesAlong_122 rfl rfl (fr_pc (pc' := 123) rfl ?_)
                refine fr_gI cl_11 24 (by decide) rfl sw_1096 dd_Mo_goesAlong_123 (fun x19 => fr_pc (pc' := 126) rfl ?_)
                refine fr_if_ne (tgt := 133) dd_Mo_goesAlong_126 rfl (fun _ => ?_) (fun _ => ?_)
                · refine fr_pc (pc' := 129) rfl ?_
                  refine fp_iconst (v := (1 : Int32)) dd_Mo_goesAlong_129 (by decide) (fr_pc (pc' := 130) rfl ?_)
                  refine fp_goto (tgt := 134) dd_Mo_goesAlong_130 rfl ?_
                  exact fr_ret rfl
                · exact fr_ret rfl
            · refine fp_iconst (v := (0 : Int32)) dd_Mo_goesAlong_133 (by decide) (fr_pc (pc' := 134) rfl ?_)
              exact fr_ret rfl
          · refine fr_pZ cl_11 47 (by decide) rfl sw_1119 rfl rfl dd_Mo_goesAlong_134 (fr_pc (pc' := 137) rfl ?_)
            refine fr_niinc (i := 4) (x := b10) (w := (1 : Int32)) dd_Mo_goesAlong_137 rfl (by decide) (Nat.le_of_ble_eq_true rfl) (fun _ => c1_i rfl) (fun y23 => fr_to (pc' := 140) (env' := [some (sf_rv p0), some (.int p1), some (.int p2), some (.int v9), some (.int y23)]) (stk' := []) rfl rfl rfl ?_)
            refine fp_goto (tgt := 76) dd_Mo_goesAlong_140 rfl ?_
            exact fr_ret rfl
    · refine fp_aload_n (i := 0) (r := p0) dd_Mo_goesAlong_143 rfl rfl (fr_pc (pc' := 144) rfl ?_)
      refine fp_iconst (v := (1 : Int32)) dd_Mo_goesAlong_144 (by decide) (fr_pc (pc' := 145) rfl ?_)
      refine fr_pI cl_11 45 (by decide) rfl sw_1117 rfl ⟨rfl, rfl⟩ dd_Mo_goesAlong_145 (fr_pc (pc' := 148) rfl ?_)
      refine fp_aload_n (i := 0) (r := p0) dd_Mo_goesAlong_148 rfl rfl (fr_pc (pc' := 149) rfl ?_)
      refine fp_bipush (v := (24 : Int32)) dd_Mo_goesAlong_149 (by decide) (fr_pc (pc' := 151) rfl ?_)
      refine fr_callV (stk := []) (As := [.int (24 : Int32)]) cl_11 (ok_Mo_passes0 p0 (24 : Int32)) mt_Mo_passes0 rfl rfl sw_1461 sw_1463 sp_60 (by decide) (Nat.le_of_ble_eq_true rfl) dd_Mo_goesAlong_151 (fun x25 => fr_to (pc' := 154) (env' := [some (sf_rv p0), some (.int p1), some (.int p2), some (.int v9), none]) (stk' := [.int x25]) rfl rfl rfl ?_)
      refine fr_bnd (l1 := (fun (v31 : (Unit)) => sf_p 184 [some (sf_rv p0), some (.int p1), some (.int p2), some (.int v9), none] [])) ?_ (fun v31 => ?_)
      · refine fr_if_eq (tgt := 184) dd_Mo_goesAlong_154 rfl (fun _ => ?_) (fun _ => ?_)
        · exact fr_ret rfl
        · refine fr_pc (pc' := 157) rfl ?_
          refine fp_aload_n (i := 0) (r := p0) dd_Mo_goesAlong_157 rfl rfl (fr_pc (pc' := 158) rfl ?_)
          refine fp_aload_n (i := 0) (r := p0) dd_Mo_goesAlong_158 rfl rfl (fr_pc (pc' := 159) rfl ?_)
          refine fr_gR cl_11 2 (by decide) rfl sw_1074 dd_Mo_goesAlong_159 (fun x27 => fr_pc (pc' := 162) rfl ?_)
          refine fp_sipush (v := (3038 : Int32)) dd_Mo_goesAlong_162 (by decide) (fr_pc (pc' := 165) rfl ?_)
          refine fp_aload_n (i := 0) (r := p0) dd_Mo_goesAlong_165 rfl rfl (fr_pc (pc' := 166) rfl ?_)
          refine fr_gI cl_11 22 (by decide) rfl sw_1094 dd_Mo_goesAlong_166 (fun x28 => fr_pc (pc' := 169) rfl ?_)
          refine fp_iadd dd_Mo_goesAlong_169 (fr_pc (pc' := 170) rfl ?_)
          refine fr_aI0 dd_Mo_goesAlong_170 (fun x29 => fr_pc (pc' := 171) rfl ?_)
          refine fr_pI cl_11 45 (by decide) rfl sw_1117 rfl ⟨rfl, rfl⟩ dd_Mo_goesAlong_171 (fr_pc (pc' := 174) rfl ?_)
          refine fp_aload_n (i := 0) (r := p0) dd_Mo_goesAlong_174 rfl rfl (fr_pc (pc' := 175) rfl ?_)
          refine fp_dup_r dd_Mo_goesAlong_175 (fr_pc (pc' := 176) rfl ?_)
          refine fr_gI cl_11 22 (by decide) rfl sw_1094 dd_Mo_goesAlong_176 (fun x30 => fr_pc (pc' := 179) rfl ?_)
          refine fp_iconst (v := (1 : Int32)) dd_Mo_goesAlong_179 (by decide) (fr_pc (pc' := 180) rfl ?_)
          refine fp_iadd dd_Mo_goesAlong_180 (fr_pc (pc' := 181) rfl ?_)
          refine fr_pI cl_11 22 (by decide) rfl sw_1094 rfl ⟨rfl, rfl⟩ dd_Mo_goesAlong_181 (fr_pc (pc' := 184) rfl ?_)
          exact fr_ret rfl
      · refine fp_aload_n (i := 0) (r := p0) dd_Mo_goesAlong_184 rfl rfl (fr_pc (pc' := 185) rfl ?_)
        refine fp_iconst (v := (0 : Int32)) dd_Mo_goesAlong_185 (by decide) (fr_pc (pc' := 186) rfl ?_)
        refine fr_pI cl_11 24 (by decide) rfl sw_1096 rfl ⟨rfl, rfl⟩ dd_Mo_goesAlong_186 (fr_pc (pc' := 189) rfl ?_)
        refine fp_aload_n (i := 0) (r := p0) dd_Mo_goesAlong_189 rfl rfl (fr_pc (pc' := 190) rfl ?_)
        refine fp_aload_n (i := 0) (r := p0) dd_Mo_goesAlong_190 rfl rfl (fr_pc (pc' := 191) rfl ?_)
        refine fp_iconst (v := (3 : Int32)) dd_Mo_goesAlong_191 (by decide) (fr_pc (pc' := 192) rfl ?_)
        refine fr_callV (stk := [sf_rv p0]) (As := [.int (3 : Int32)]) cl_11 (ok_Mo_passes0 p0 (3 : Int32)) mt_Mo_passes0 rfl rfl sw_1461 sw_1463 sp_60 (by decide) (Nat.le_of_ble_eq_true rfl) dd_Mo_goesAlong_192 (fun x32 => fr_to (pc' := 195) (env' := [some (sf_rv p0), some (.int p1), some (.int p2), some (.int v9), none]) (stk' := [.int x32, sf_rv p0]) rfl rfl rfl ?_)
        refine fr_bnd (l1 := (fun (v37 : (Int32)) => sf_p 211 [some (sf_rv p0), some (.int p1), some (.int p2), some (.int v9), none] [.int v37, sf_rv p0])) ?_ (fun v37 => ?_)
        · refine fr_or (l1 := (fun (v36 : (Unit)) => sf_p 206 [some (sf_rv p0), some (.int p1), some (.int p2), some (.int v9), none] [sf_rv p0])) ?_ (fun v36 => ?_)
          · refine fr_if_eq (tgt := 206) dd_Mo_goesAlong_195 rfl (fun _ => ?_) (fun _ => ?_)
            · exact fr_ret rfl
            · refine fr_pc (pc' := 198) rfl ?_
              refine fp_aload_n (i := 0) (r := p0) dd_Mo_goesAlong_198 rfl rfl (fr_pc (pc' := 199) rfl ?_)
              refine fp_iload_n (i := 2) (x := p2) dd_Mo_goesAlong_199 rfl rfl (fr_pc (pc' := 200) rfl ?_)
              refine fr_callV (stk := [sf_rv p0]) (As := [.int p2]) cl_11 (ok_Mo_testOf sf_deep p0 p2) mt_Mo_testOf rfl rfl sw_1483 sw_1485 sp_65 (by decide) (Nat.le_of_ble_eq_true rfl) dd_Mo_goesAlong_200 (fun x34 => fr_to (pc' := 203) (env' := [some (sf_rv p0), some (.int p1), some (.int p2), some (.int v9), none]) (stk' := [.int x34, sf_rv p0]) rfl rfl rfl ?_)
              refine fr_if_eq (tgt := 210) dd_Mo_goesAlong_203 rfl (fun _ => ?_) (fun _ => ?_)
              · refine fp_iconst (v := (0 : Int32)) dd_Mo_goesAlong_210 (by decide) (fr_pc (pc' := 211) rfl ?_)
                exact fr_ret rfl
              · refine fr_pc (pc' := 206) rfl ?_
                exact fr_ret rfl
          · refine fp_iconst (v := (1 : Int32)) dd_Mo_goesAlong_206 (by decide) (fr_pc (pc' := 207) rfl ?_)
            refine fp_goto (tgt := 211) dd_Mo_goesAlong_207 rfl ?_
            exact fr_ret rfl
        · refine fr_pZ cl_11 48 (by decide) rfl sw_1120 rfl rfl dd_Mo_goesAlong_211 (fr_pc (pc' := 214) rfl ?_)
          refine fp_aload_n (i := 0) (r := p0) dd_Mo_goesAlong_214 rfl rfl (fr_pc (pc' := 215) rfl ?_)
          refine fp_aload_n (i := 0) (r := p0) dd_Mo_goesAlong_215 rfl rfl (fr_pc (pc' := 216) rfl ?_)
          refine fr_gI cl_11 48 (by decide) rfl sw_1120 dd_Mo_goesAlong_216 (fun x38 => fr_pc (pc' := 219) rfl ?_)
          refine fr_bnd (l1 := (fun (v43 : (Int32)) => sf_p 234 [some (sf_rv p0), some (.int p1), some (.int p2), some (.int v9), none] [.int v43, sf_rv p0])) ?_ (fun v43 => ?_)
          · refine fr_or (l1 := (fun (v42 : (Unit)) => sf_p 233 [some (sf_rv p0), some (.int p1), some (.int p2), some (.int v9), none] [sf_rv p0])) ?_ (fun v42 => ?_)
            · refine fr_if_eq (tgt := 233) dd_Mo_goesAlong_219 rfl (fun _ => ?_) (fun _ => ?_)
              · exact fr_ret rfl
              · refine fr_pc (pc' := 222) rfl ?_
                refine fp_aload_n (i := 0) (r := p0) dd_Mo_goesAlong_222 rfl rfl (fr_pc (pc' := 223) rfl ?_)
                refine fr_gI cl_11 24 (by decide) rfl sw_1096 dd_Mo_goesAlong_223 (fun x40 => fr_pc (pc' := 226) rfl ?_)
                refine fr_if_ne (tgt := 233) dd_Mo_goesAlong_226 rfl (fun _ => ?_) (fun _ => ?_)
                · refine fr_pc (pc' := 229) rfl ?_
                  refine fp_iconst (v := (1 : Int32)) dd_Mo_goesAlong_229 (by decide) (fr_pc (pc' := 230) rfl ?_)
                  refine fp_goto (tgt := 234) dd_Mo_goesAlong_230 rfl ?_
                  exact fr_ret rfl
                · exact fr_ret rfl
            · refine fp_iconst (v := (0 : Int32)) dd_Mo_goesAlong_233 (by decide) (fr_pc (pc' := 234) rfl ?_)
              exact fr_ret rfl
          · refine fr_pZ cl_11 48 (by decide) rfl sw_1120 rfl rfl dd_Mo_goesAlong_234 (fr_pc (pc' := 237) rfl ?_)
            refine fp_aload_n (i := 0) (r := p0) dd_Mo_goesAlong_237 rfl rfl (fr_pc (pc' := 238) rfl ?_)
            refine fp_dup_r dd_Mo_goesAlong_238 (fr_pc (pc' := 239) rfl ?_)
            refine fr_gI cl_11 22 (by decide) rfl sw_1094 dd_Mo_goesAlong_239 (fun x44 => fr_pc (pc' := 242) rfl ?_)
            refine fp_iconst (v := (1 : Int32)) dd_Mo_goesAlong_242 (by decide) (fr_pc (pc' := 243) rfl ?_)
            refine fp_iadd dd_Mo_goesAlong_243 (fr_pc (pc' := 244) rfl ?_)
            refine fr_pI cl_11 22 (by decide) rfl sw_1094 rfl ⟨rfl, rfl⟩ dd_Mo_goesAlong_244 (fr_pc (pc' := 247) rfl ?_)
            exact fr_vret rfl rfl dd_Mo_goesAlong_247
theorem mt_Mo_small : sf_Mt ({ cls := "SplitFaresModel", name := "small", desc := "(J)I" } : Jvm.MethodName) prog_13_method_135_code 2 (some .int) 1 := ⟨sw_1763, sw_12, ⟨by decide, by decide, by decide +kernel⟩, by decide⟩
theorem dd_Mo_small_0 : decode prog_13_method_135_code 0 = .ok (.lload_n 0, 1) := by decide +kernel
theorem dd_Mo_small_1 : decode prog_13_method_135_code 1 = .ok (.lconst 0, 1) := by decide +kernel
theorem dd_Mo_small_2 : decode prog_13_method_135_code 2 = .ok (.lcmp, 1) := by decide +kernel
theorem dd_Mo_small_3 : decode prog_13_method_135_code 3 = .ok (.ifCond .lt 11, 3) := by decide +kernel
theorem dd_Mo_small_6 : decode prog_13_method_135_code 6 = .ok (.lload_n 0, 1) := by decide +kernel
theorem dd_Mo_small_7 : decode prog_13_method_135_code 7 = .ok (.ldc2_w 489, 3) := by decide +kernel
theorem dd_Mo_small_10 : decode prog_13_method_135_code 10 = .ok (.lcmp, 1) := by decide +kernel
theorem dd_Mo_small_11 : decode prog_13_method_135_code 11 = .ok (.ifCond .le 7, 3) := by decide +kernel
theorem dd_Mo_small_18 : decode prog_13_method_135_code 18 = .ok (.lload_n 0, 1) := by decide +kernel
theorem dd_Mo_small_19 : decode prog_13_method_135_code 19 = .ok (.l2i, 1) := by decide +kernel
theorem dd_Mo_small_14 : decode prog_13_method_135_code 14 = .ok (.iconst (-1), 1) := by decide +kernel
theorem dd_Mo_small_15 : decode prog_13_method_135_code 15 = .ok (.goto 5, 3) := by decide +kernel
theorem dd_Mo_small_20 : decode prog_13_method_135_code 20 = .ok (.ireturn, 1) := by decide +kernel
def jx_Mo_small (p0 : Int64) : sf_M (Int32) :=
  if (lg_cmp p0 (0 : Int64)) < 0 then (
  sf_ret (-1 : Int32)
  ) else (
  if (lg_cmp p0 (1000000 : Int64)) ≤ 0 then (
  sf_ret p0.toInt32
  ) else (
  sf_ret (-1 : Int32)
  )
  )
set_option maxRecDepth 20000 in
set_option maxHeartbeats 4000000 in
theorem ok_Mo_small (p0 : Int64) : sf_Ok ({ cls := "SplitFaresModel", name := "small", desc := "(J)I" } : Jvm.MethodName) prog_13_method_135_code 2 (some .int) 0 [.long p0] (jx_Mo_small p0) (fun r => some (.int r)) := by
  refine sf_Ok.of (env := [some (.long p0), none]) (plainFor_of_name (by decide)) [true] (fun G => ⟨pk_l, trivial⟩) (Nat.le_of_ble_eq_true rfl) rfl (fun X => ?_)
  unfold jx_Mo_small
  refine fp_lload_n (i := 0) (x := p0) dd_Mo_small_0 rfl rfl (fr_pc (pc' := 1) rfl ?_)
  refine fp_lconst (v := (0 : Int64)) dd_Mo_small_1 (by decide) (fr_pc (pc' := 2) rfl ?_)
  refine fp_lcmp dd_Mo_small_2 (fr_pc (pc' := 3) rfl ?_)
  refine fr_if_lt (tgt := 14) dd_Mo_small_3 rfl (fun _ => ?_) (fun _ => ?_)
  · refine fp_iconst (v := (-1 : Int32)) dd_Mo_small_14 (by decide) (fr_pc (pc' := 15) rfl ?_)
    refine fp_goto (tgt := 20) dd_Mo_small_15 rfl ?_
    exact fr_iret (v := (-1 : Int32)) rfl rfl dd_Mo_small_20
  · refine fr_pc (pc' := 6) rfl ?_
    refine fp_lload_n (i := 0) (x := p0) dd_Mo_small_6 rfl rfl (fr_pc (pc' := 7) rfl ?_)
    refine fp_ldc2 (v := (1000000 : Int64)) dd_Mo_small_7 sw_1764 (fr_pc (pc' := 10) rfl ?_)
    refine fp_lcmp dd_Mo_small_10 (fr_pc (pc' := 11) rfl ?_)
    refine fr_if_le (tgt := 18) dd_Mo_small_11 rfl (fun _ => ?_) (fun _ => ?_)
    · refine fp_lload_n (i := 0) (x := p0) dd_Mo_small_18 rfl rfl (fr_pc (pc' := 19) rfl ?_)
      refine fp_l2i dd_Mo_small_19 (fr_pc (pc' := 20) rfl ?_)
      exact fr_iret (v := p0.toInt32) rfl rfl dd_Mo_small_20
    · refine fr_pc (pc' := 14) rfl ?_
      refine fp_iconst (v := (-1 : Int32)) dd_Mo_small_14 (by decide) (fr_pc (pc' := 15) rfl ?_)
      refine fp_goto (tgt := 20) dd_Mo_small_15 rfl ?_
      exact fr_iret (v := (-1 : Int32)) rfl rfl dd_Mo_small_20
theorem mt_Mo_obeys : sf_Mt ({ cls := "SplitFaresModel", name := "obeys", desc := "()I" } : Jvm.MethodName) prog_13_method_136_code 4 (some .int) 0 := ⟨sw_1760, sw_12, ⟨by decide, by decide, by decide +kernel⟩, by decide⟩
theorem dd_Mo_obeys_0 : decode prog_13_method_136_code 0 = .ok (.aload_n 0, 1) := by decide +kernel
theorem dd_Mo_obeys_1 : decode prog_13_method_136_code 1 = .ok (.getfield 110, 3) := by decide +kernel
theorem dd_Mo_obeys_4 : decode prog_13_method_136_code 4 = .ok (.iconst 0, 1) := by decide +kernel
theorem dd_Mo_obeys_5 : decode prog_13_method_136_code 5 = .ok (.laload, 1) := by decide +kernel
theorem dd_Mo_obeys_6 : decode prog_13_method_136_code 6 = .ok (.invokestatic 491, 3) := by decide +kernel
theorem dd_Mo_obeys_9 : decode prog_13_method_136_code 9 = .ok (.istore_n 1, 1) := by decide +kernel
theorem dd_Mo_obeys_10 : decode prog_13_method_136_code 10 = .ok (.aload_n 0, 1) := by decide +kernel
theorem dd_Mo_obeys_11 : decode prog_13_method_136_code 11 = .ok (.getfield 110, 3) := by decide +kernel
theorem dd_Mo_obeys_14 : decode prog_13_method_136_code 14 = .ok (.iconst 1, 1) := by decide +kernel
theorem dd_Mo_obeys_15 : decode prog_13_method_136_code 15 = .ok (.laload, 1) := by decide +kernel
theorem dd_Mo_obeys_16 : decode prog_13_method_136_code 16 = .ok (.invokestatic 491, 3) := by decide +kernel
theorem dd_Mo_obeys_19 : decode prog_13_method_136_code 19 = .ok (.istore_n 2, 1) := by decide +kernel
theorem dd_Mo_obeys_20 : decode prog_13_method_136_code 20 = .ok (.aload_n 0, 1) := by decide +kernel
theorem dd_Mo_obeys_21 : decode prog_13_method_136_code 21 = .ok (.getfield 477, 3) := by decide +kernel
theorem dd_Mo_obeys_24 : decode prog_13_method_136_code 24 = .ok (.lookupswitch 71 #[(11, 52), (20, 44), (22, 60), (23, 66)], 44) := by decide +kernel
theorem dd_Mo_obeys_95 : decode prog_13_method_136_code 95 = .ok (.aload_n 0, 1) := by decide +kernel
theorem dd_Mo_obeys_96 : decode prog_13_method_136_code 96 = .ok (.iload_n 1, 1) := by decide +kernel
theorem dd_Mo_obeys_97 : decode prog_13_method_136_code 97 = .ok (.iload_n 2, 1) := by decide +kernel
theorem dd_Mo_obeys_98 : decode prog_13_method_136_code 98 = .ok (.invokevirtual 438, 3) := by decide +kernel
theorem dd_Mo_obeys_101 : decode prog_13_method_136_code 101 = .ok (.istore_n 3, 1) := by decide +kernel
theorem dd_Mo_obeys_102 : decode prog_13_method_136_code 102 = .ok (.aload_n 0, 1) := by decide +kernel
theorem dd_Mo_obeys_103 : decode prog_13_method_136_code 103 = .ok (.iload_n 3, 1) := by decide +kernel
theorem dd_Mo_obeys_104 : decode prog_13_method_136_code 104 = .ok (.ifCond .ge 10, 3) := by decide +kernel
theorem dd_Mo_obeys_107 : decode prog_13_method_136_code 107 = .ok (.aload_n 0, 1) := by decide +kernel
theorem dd_Mo_obeys_108 : decode prog_13_method_136_code 108 = .ok (.getfield 304, 3) := by decide +kernel
theorem dd_Mo_obeys_111 : decode prog_13_method_136_code 111 = .ok (.goto 4, 3) := by decide +kernel
theorem dd_Mo_obeys_114 : decode prog_13_method_136_code 114 = .ok (.iload_n 3, 1) := by decide +kernel
theorem dd_Mo_obeys_115 : decode prog_13_method_136_code 115 = .ok (.putfield 304, 3) := by decide +kernel
theorem dd_Mo_obeys_118 : decode prog_13_method_136_code 118 = .ok (.iload_n 3, 1) := by decide +kernel
theorem dd_Mo_obeys_119 : decode prog_13_method_136_code 119 = .ok (.ireturn, 1) := by decide +kernel
theorem dd_Mo_obeys_90 : decode prog_13_method_136_code 90 = .ok (.aload_n 0, 1) := by decide +kernel
theorem dd_Mo_obeys_91 : decode prog_13_method_136_code 91 = .ok (.invokevirtual 444, 3) := by decide +kernel
theorem dd_Mo_obeys_94 : decode prog_13_method_136_code 94 = .ok (.ireturn, 1) := by decide +kernel
theorem dd_Mo_obeys_84 : decode prog_13_method_136_code 84 = .ok (.aload_n 0, 1) := by decide +kernel
theorem dd_Mo_obeys_85 : decode prog_13_method_136_code 85 = .ok (.iload_n 1, 1) := by decide +kernel
theorem dd_Mo_obeys_86 : decode prog_13_method_136_code 86 = .ok (.invokevirtual 441, 3) := by decide +kernel
theorem dd_Mo_obeys_89 : decode prog_13_method_136_code 89 = .ok (.ireturn, 1) := by decide +kernel
theorem dd_Mo_obeys_68 : decode prog_13_method_136_code 68 = .ok (.aload_n 0, 1) := by decide +kernel
theorem dd_Mo_obeys_69 : decode prog_13_method_136_code 69 = .ok (.iconst 0, 1) := by decide +kernel
theorem dd_Mo_obeys_70 : decode prog_13_method_136_code 70 = .ok (.iload_n 1, 1) := by decide +kernel
theorem dd_Mo_obeys_71 : decode prog_13_method_136_code 71 = .ok (.iload_n 2, 1) := by decide +kernel
theorem dd_Mo_obeys_72 : decode prog_13_method_136_code 72 = .ok (.invokevirtual 432, 3) := by decide +kernel
theorem dd_Mo_obeys_75 : decode prog_13_method_136_code 75 = .ok (.ireturn, 1) := by decide +kernel
theorem dd_Mo_obeys_76 : decode prog_13_method_136_code 76 = .ok (.aload_n 0, 1) := by decide +kernel
theorem dd_Mo_obeys_77 : decode prog_13_method_136_code 77 = .ok (.iconst 1, 1) := by decide +kernel
theorem dd_Mo_obeys_78 : decode prog_13_method_136_code 78 = .ok (.iload_n 1, 1) := by decide +kernel
theorem dd_Mo_obeys_79 : decode prog_13_method_136_code 79 = .ok (.iload_n 2, 1) := by decide +kernel
theorem dd_Mo_obeys_80 : decode prog_13_method_136_code 80 = .ok (.invokevirtual 432, 3) := by decide +kernel
theorem dd_Mo_obeys_83 : decode prog_13_method_136_code 83 = .ok (.ireturn, 1) := by decide +kernel
def jx_Mo_obeys (p0 : Option Nat) : sf_M (Int32) :=
  sf_bnd (sf_gR 11 49 p0) fun x1 =>
  sf_bnd (sf_aL x1 (0 : Int32)) fun x2 =>
  sf_bnd (jx_Mo_small x2) fun x3 =>
  sf_bnd (sf_gR 11 49 p0) fun x4 =>
  sf_bnd (sf_aL x4 (1 : Int32)) fun x5 =>
  sf_bnd (jx_Mo_small x5) fun x6 =>
  sf_bnd (sf_gI 11 46 p0) fun x7 =>
  if x7 = (11 : Int32) then (
  sf_bnd (sf_rc 11 p0 (jx_Mo_buysKept p0 (1 : Int32) x3 x6)) fun x8 =>
  sf_ret x8
  ) else (
  if x7 = (20 : Int32) then (
  sf_bnd (sf_rc 11 p0 (jx_Mo_buysKept p0 (0 : Int32) x3 x6)) fun x9 =>
  sf_ret x9
  ) else (
  if x7 = (22 : Int32) then (
  sf_bnd (sf_rc 11 p0 (jx_Mo_savesKept p0 x3)) fun x10 =>
  sf_ret x10
  ) else (
  if x7 = (23 : Int32) then (
  sf_bnd (sf_rc 11 p0 (jx_Mo_passesKept p0)) fun x11 =>
  sf_ret x11
  ) else (
  sf_bnd (sf_rc 11 p0 (jx_Mo_ridesKept p0 x3 x6)) fun x12 =>
  sf_bnd (α := (Int32)) (
  if 0 ≤ x12 then (
  sf_ret x12
  ) else (
  sf_bnd (sf_gI 11 28 p0) fun x14 =>
  sf_ret x14
  )
  ) (fun v15 =>
  sf_bnd (sf_pI 11 28 p0 v15) fun _ =>
  sf_ret x12
  )
  )
  )
  )
  )
set_option maxRecDepth 20000 in
set_option maxHeartbeats 4000000 in
theorem ok_Mo_obeys (p0 : Option Nat) : sf_Ok ({ cls := "SplitFaresModel", name := "obeys", desc := "()I" } : Jvm.MethodName) prog_13_method_136_code 4 (some .int) 212 [sf_rv p0] (jx_Mo_obeys p0) (fun r => some (.int r)) := by
  refine sf_Ok.of (env := [some (sf_rv p0), none, none, none]) (plainFor_of_name (by decide)) [false] (fun G => ⟨pk_r, trivial⟩) (Nat.le_of_ble_eq_true rfl) rfl (fun X => ?_)
  unfold jx_Mo_obeys
  refine fp_aload_n (i := 0) (r := p0) dd_Mo_obeys_0 rfl rfl (fr_pc (pc' := 1) rfl ?_)
  refine fr_gR cl_11 49 (by decide) rfl sw_1121 dd_Mo_obeys_1 (fun x1 => fr_pc (pc' := 4) rfl ?_)
  refine fp_iconst (v := (0 : Int32)) dd_Mo_obeys_4 (by decide) (fr_pc (pc' := 5) rfl ?_)
  refine fr_aL dd_Mo_obeys_5 (fun x2 => fr_pc (pc' := 6) rfl ?_)
  refine fr_callS (stk := []) (ok_Mo_small x2) mt_Mo_small rfl rfl sw_1761 sw_1762 (by decide) (Nat.le_of_ble_eq_true rfl) dd_Mo_obeys_6 (fun x3 => fr_to (pc' := 9) (env' := [some (sf_rv p0), none, none, none]) (stk' := [.int x3]) rfl rfl rfl ?_)
  refine fp_istore_n (i := 1) dd_Mo_obeys_9 rfl (Nat.le_of_ble_eq_true rfl) (fun _ => c1_r rfl) (fr_to (pc' := 10) (env' := [some (sf_rv p0), some (.int x3), none, none]) (stk' := []) rfl rfl rfl ?_)
  refine fp_aload_n (i := 0) (r := p0) dd_Mo_obeys_10 rfl rfl (fr_pc (pc' := 11) rfl ?_)
  refine fr_gR cl_11 49 (by decide) rfl sw_1121 dd_Mo_obeys_11 (fun x4 => fr_pc (pc' := 14) rfl ?_)
  refine fp_iconst (v := (1 : Int32)) dd_Mo_obeys_14 (by decide) (fr_pc (pc' := 15) rfl ?_)
  refine fr_aL dd_Mo_obeys_15 (fun x5 => fr_pc (pc' := 16) rfl ?_)
  refine fr_callS (stk := []) (ok_Mo_small x5) mt_Mo_small rfl rfl sw_1761 sw_1762 (by decide) (Nat.le_of_ble_eq_true rfl) dd_Mo_obeys_16 (fun x6 => fr_to (pc' := 19) (env' := [some (sf_rv p0), some (.int x3), none, none]) (stk' := [.int x6]) rfl rfl rfl ?_)
  refine fp_istore_n (i := 2) dd_Mo_obeys_19 rfl (Nat.le_of_ble_eq_true rfl) (fun _ => c1_i rfl) (fr_to (pc' := 20) (env' := [some (sf_rv p0), some (.int x3), some (.int x6), none]) (stk' := []) rfl rfl rfl ?_)
  refine fp_aload_n (i := 0) (r := p0) dd_Mo_obeys_20 rfl rfl (fr_pc (pc' := 21) rfl ?_)
  refine fr_gI cl_11 46 (by decide) rfl sw_1118 dd_Mo_obeys_21 (fun x7 => fr_pc (pc' := 24) rfl ?_)
  refine fp_lsw (t0 := 95) (cs := [((11 : Int32), 76), ((20 : Int32), 68), ((22 : Int32), 84), ((23 : Int32), 90)]) dd_Mo_obeys_24 (by decide) rfl rfl ?_
  refine fr_sw (fun _ => ?_) (fun _ => ?_)
  · refine fp_aload_n (i := 0) (r := p0) dd_Mo_obeys_76 rfl rfl (fr_pc (pc' := 77) rfl ?_)
    refine fp_iconst (v := (1 : Int32)) dd_Mo_obeys_77 (by decide) (fr_pc (pc' := 78) rfl ?_)
    refine fp_iload_n (i := 1) (x := x3) dd_Mo_obeys_78 rfl rfl (fr_pc (pc' := 79) rfl ?_)
    refine fp_iload_n (i := 2) (x := x6) dd_Mo_obeys_79 rfl rfl (fr_pc (pc' := 80) rfl ?_)
    refine fr_callV (stk := []) (As := [.int (1 : Int32), .int x3, .int x6]) cl_11 (ok_Mo_buysKept p0 (1 : Int32) x3 x6) mt_Mo_buysKept rfl rfl sw_1620 sw_1622 sp_83 (by decide) (Nat.le_of_ble_eq_true rfl) dd_Mo_obeys_80 (fun x8 => fr_to (pc' := 83) (env' := [some (sf_rv p0), some (.int x3), some (.int x6), none]) (stk' := [.int x8]) rfl rfl rfl ?_)
    exact fr_iret (v := x8) rfl rfl dd_Mo_obeys_83
  · refine fr_sw (fun _ => ?_) (fun _ => ?_)
    · refine fp_aload_n (i := 0) (r := p0) dd_Mo_obeys_68 rfl rfl (fr_pc (pc' := 69) rfl ?_)
      refine fp_iconst (v := (0 : Int32)) dd_Mo_obeys_69 (by decide) (fr_pc (pc' := 70) rfl ?_)
      refine fp_iload_n (i := 1) (x := x3) dd_Mo_obeys_70 rfl rfl (fr_pc (pc' := 71) rfl ?_)
      refine fp_iload_n (i := 2) (x := x6) dd_Mo_obeys_71 rfl rfl (fr_pc (pc' := 72) rfl ?_)
      refine fr_callV (stk := []) (As := [.int (0 : Int32), .int x3, .int x6]) cl_11 (ok_Mo_buysKept p0 (0 : Int32) x3 x6) mt_Mo_buysKept rfl rfl sw_1620 sw_1622 sp_83 (by decide) (Nat.le_of_ble_eq_true rfl) dd_Mo_obeys_72 (fun x9 => fr_to (pc' := 75) (env' := [some (sf_rv p0), some (.int x3), some (.int x6), none]) (stk' := [.int x9]) rfl rfl rfl ?_)
      exact fr_iret (v := x9) rfl rfl dd_Mo_obeys_75
    · refine fr_sw (fun _ => ?_) (fun _ => ?_)
      · refine fp_aload_n (i := 0) (r := p0) dd_Mo_obeys_84 rfl rfl (fr_pc (pc' := 85) rfl ?_)
        refine fp_iload_n (i := 1) (x := x3) dd_Mo_obeys_85 rfl rfl (fr_pc (pc' := 86) rfl ?_)
        refine fr_callV (stk := []) (As := [.int x3]) cl_11 (ok_Mo_savesKept p0 x3) mt_Mo_savesKept rfl rfl sw_1676 sw_1678 sp_95 (by decide) (Nat.le_of_ble_eq_true rfl) dd_Mo_obeys_86 (fun x10 => fr_to (pc' := 89) (env' := [some (sf_rv p0), some (.int x3), some (.int x6), none]) (stk' := [.int x10]) rfl rfl rfl ?_)
        exact fr_iret (v := x10) rfl rfl dd_Mo_obeys_89
      · refine fr_sw (fun _ => ?_) (fun _ => ?_)
        · refine fp_aload_n (i := 0) (r := p0) dd_Mo_obeys_90 rfl rfl (fr_pc (pc' := 91) rfl ?_)
          refine fr_callV (stk := []) (As := []) cl_11 (ok_Mo_passesKept p0) mt_Mo_passesKept rfl rfl sw_1685 sw_1687 sp_96 (by decide) (Nat.le_of_ble_eq_true rfl) dd_Mo_obeys_91 (fun x11 => fr_to (pc' := 94) (env' := [some (sf_rv p0), some (.int x3), some (.int x6), none]) (stk' := [.int x11]) rfl rfl rfl ?_)
          exact fr_iret (v := x11) rfl rfl dd_Mo_obeys_94
        · refine fr_pc (pc' := 95) rfl ?_
          refine fp_aload_n (i := 0) (r := p0) dd_Mo_obeys_95 rfl rfl (fr_pc (pc' := 96) rfl ?_)
          refine fp_iload_n (i := 1) (x := x3) dd_Mo_obeys_96 rfl rfl (fr_pc (pc' := 97) rfl ?_)
          refine fp_iload_n (i := 2) (x := x6) dd_Mo_obeys_97 rfl rfl (fr_pc (pc' := 98) rfl ?_)
          refine fr_callV (stk := []) (As := [.int x3, .int x6]) cl_11 (ok_Mo_ridesKept p0 x3 x6) mt_Mo_ridesKept rfl rfl sw_1644 sw_1646 sp_88 (by decide) (Nat.le_of_ble_eq_true rfl) dd_Mo_obeys_98 (fun x12 => fr_to (pc' := 101) (env' := [some (sf_rv p0), some (.int x3), some (.int x6), none]) (stk' := [.int x12]) rfl rfl rfl ?_)
          refine fp_istore_n (i := 3) dd_Mo_obeys_101 rfl (Nat.le_of_ble_eq_true rfl) (fun _ => c1_i rfl) (fr_to (pc' := 102) (env' := [some (sf_rv p0), some (.int x3), some (.int x6), some (.int x12)]) (stk' := []) rfl rfl rfl ?_)
          refine fp_aload_n (i := 0) (r := p0) dd_Mo_obeys_102 rfl rfl (fr_pc (pc' := 103) rfl ?_)
          refine fp_iload_n (i := 3) (x := x12) dd_Mo_obeys_103 rfl rfl (fr_pc (pc' := 104) rfl ?_)
          refine fr_bnd (l1 := (fun (v15 : (Int32)) => sf_p 115 [some (sf_rv p0), some (.int x3), some (.int x6), some (.int x12)] [.int v15, sf_rv p0])) ?_ (fun v15 => ?_)
          · refine fr_if_ge (tgt := 114) dd_Mo_obeys_104 rfl (fun _ => ?_) (fun _ => ?_)
            · refine fp_iload_n (i := 3) (x := x12) dd_Mo_obeys_114 rfl rfl (fr_pc (pc' := 115) rfl ?_)
              exact fr_ret rfl
            · refine fr_pc (pc' := 107) rfl ?_
              refine fp_aload_n (i := 0) (r := p0) dd_Mo_obeys_107 rfl rfl (fr_pc (pc' := 108) rfl ?_)
              refine fr_gI cl_11 28 (by decide) rfl sw_1100 dd_Mo_obeys_108 (fun x14 => fr_pc (pc' := 111) rfl ?_)
              refine fp_goto (tgt := 115) dd_Mo_obeys_111 rfl ?_
              exact fr_ret rfl
          · refine fr_pI cl_11 28 (by decide) rfl sw_1100 rfl ⟨rfl, rfl⟩ dd_Mo_obeys_115 (fr_pc (pc' := 118) rfl ?_)
            refine fp_iload_n (i := 3) (x := x12) dd_Mo_obeys_118 rfl rfl (fr_pc (pc' := 119) rfl ?_)
            exact fr_iret (v := x12) rfl rfl dd_Mo_obeys_119
theorem mt_Mo_runs : sf_Mt ({ cls := "SplitFaresModel", name := "runs", desc := "(I)Z" } : Jvm.MethodName) prog_13_method_137_code 5 (some .boolean) 1 := ⟨sw_1752, sw_12, ⟨by decide, by decide, by decide +kernel⟩, by decide⟩
theorem dd_Mo_runs_0 : decode prog_13_method_137_code 0 = .ok (.aload_n 0, 1) := by decide +kernel
theorem dd_Mo_runs_1 : decode prog_13_method_137_code 1 = .ok (.iload_n 1, 1) := by decide +kernel
theorem dd_Mo_runs_2 : decode prog_13_method_137_code 2 = .ok (.iconst 0, 1) := by decide +kernel
theorem dd_Mo_runs_3 : decode prog_13_method_137_code 3 = .ok (.invokevirtual 495, 3) := by decide +kernel
theorem dd_Mo_runs_6 : decode prog_13_method_137_code 6 = .ok (.aload_n 0, 1) := by decide +kernel
theorem dd_Mo_runs_7 : decode prog_13_method_137_code 7 = .ok (.getfield 483, 3) := by decide +kernel
theorem dd_Mo_runs_10 : decode prog_13_method_137_code 10 = .ok (.istore_n 2, 1) := by decide +kernel
theorem dd_Mo_runs_11 : decode prog_13_method_137_code 11 = .ok (.aload_n 0, 1) := by decide +kernel
theorem dd_Mo_runs_12 : decode prog_13_method_137_code 12 = .ok (.getfield 265, 3) := by decide +kernel
theorem dd_Mo_runs_15 : decode prog_13_method_137_code 15 = .ok (.istore_n 3, 1) := by decide +kernel
theorem dd_Mo_runs_16 : decode prog_13_method_137_code 16 = .ok (.iconst 0, 1) := by decide +kernel
theorem dd_Mo_runs_17 : decode prog_13_method_137_code 17 = .ok (.istore 4, 2) := by decide +kernel
theorem dd_Mo_runs_19 : decode prog_13_method_137_code 19 = .ok (.iload 4, 2) := by decide +kernel
theorem dd_Mo_runs_21 : decode prog_13_method_137_code 21 = .ok (.iload_n 2, 1) := by decide +kernel
theorem dd_Mo_runs_22 : decode prog_13_method_137_code 22 = .ok (.if_icmp .ge 51, 3) := by decide +kernel
theorem dd_Mo_runs_25 : decode prog_13_method_137_code 25 = .ok (.aload_n 0, 1) := by decide +kernel
theorem dd_Mo_runs_26 : decode prog_13_method_137_code 26 = .ok (.iload_n 1, 1) := by decide +kernel
theorem dd_Mo_runs_27 : decode prog_13_method_137_code 27 = .ok (.iconst 1, 1) := by decide +kernel
theorem dd_Mo_runs_28 : decode prog_13_method_137_code 28 = .ok (.invokevirtual 495, 3) := by decide +kernel
theorem dd_Mo_runs_31 : decode prog_13_method_137_code 31 = .ok (.aload_n 0, 1) := by decide +kernel
theorem dd_Mo_runs_32 : decode prog_13_method_137_code 32 = .ok (.getfield 486, 3) := by decide +kernel
theorem dd_Mo_runs_35 : decode prog_13_method_137_code 35 = .ok (.ifCond .ne 6, 3) := by decide +kernel
theorem dd_Mo_runs_38 : decode prog_13_method_137_code 38 = .ok (.goto 29, 3) := by decide +kernel
theorem dd_Mo_runs_41 : decode prog_13_method_137_code 41 = .ok (.aload_n 0, 1) := by decide +kernel
theorem dd_Mo_runs_42 : decode prog_13_method_137_code 42 = .ok (.getfield 480, 3) := by decide +kernel
theorem dd_Mo_runs_45 : decode prog_13_method_137_code 45 = .ok (.ifCond .eq 10, 3) := by decide +kernel
theorem dd_Mo_runs_48 : decode prog_13_method_137_code 48 = .ok (.aload_n 0, 1) := by decide +kernel
theorem dd_Mo_runs_49 : decode prog_13_method_137_code 49 = .ok (.invokevirtual 499, 3) := by decide +kernel
theorem dd_Mo_runs_52 : decode prog_13_method_137_code 52 = .ok (.ifCond .ge 5, 3) := by decide +kernel
theorem dd_Mo_runs_57 : decode prog_13_method_137_code 57 = .ok (.aload_n 0, 1) := by decide +kernel
theorem dd_Mo_runs_58 : decode prog_13_method_137_code 58 = .ok (.dup, 1) := by decide +kernel
theorem dd_Mo_runs_59 : decode prog_13_method_137_code 59 = .ok (.getfield 301, 3) := by decide +kernel
theorem dd_Mo_runs_62 : decode prog_13_method_137_code 62 = .ok (.iconst 1, 1) := by decide +kernel
theorem dd_Mo_runs_63 : decode prog_13_method_137_code 63 = .ok (.iadd, 1) := by decide +kernel
theorem dd_Mo_runs_64 : decode prog_13_method_137_code 64 = .ok (.putfield 301, 3) := by decide +kernel
theorem dd_Mo_runs_67 : decode prog_13_method_137_code 67 = .ok (.iinc 4 1, 3) := by decide +kernel
theorem dd_Mo_runs_70 : decode prog_13_method_137_code 70 = .ok (.goto (-51), 3) := by decide +kernel
theorem dd_Mo_runs_55 : decode prog_13_method_137_code 55 = .ok (.iconst 0, 1) := by decide +kernel
theorem dd_Mo_runs_56 : decode prog_13_method_137_code 56 = .ok (.ireturn, 1) := by decide +kernel
theorem dd_Mo_runs_73 : decode prog_13_method_137_code 73 = .ok (.aload_n 0, 1) := by decide +kernel
theorem dd_Mo_runs_74 : decode prog_13_method_137_code 74 = .ok (.iload_n 3, 1) := by decide +kernel
theorem dd_Mo_runs_75 : decode prog_13_method_137_code 75 = .ok (.putfield 468, 3) := by decide +kernel
theorem dd_Mo_runs_78 : decode prog_13_method_137_code 78 = .ok (.iconst 1, 1) := by decide +kernel
theorem dd_Mo_runs_79 : decode prog_13_method_137_code 79 = .ok (.ireturn, 1) := by decide +kernel
def jx_Mo_runs (p0 : Option Nat) (p1 : Int32) : sf_M (Int32) :=
  sf_bnd (sf_rc 11 p0 (jx_Mo_goesAlong p0 p1 (0 : Int32))) fun _ =>
  sf_bnd (sf_gI 11 45 p0) fun x2 =>
  sf_bnd (sf_gI 11 22 p0) fun x3 =>
  sf_or (α := Int32) (β := (Unit)) (sf_loop (β := (Int32)) (γ := (Int32 ⊕ (Unit))) (fun b4 =>
  if x2 ≤ b4 then (
  sf_ret (.inr (.inr ()))
  ) else (
  sf_bnd (sf_rc 11 p0 (jx_Mo_goesAlong p0 p1 (1 : Int32))) fun _ =>
  sf_bnd (sf_gI 11 48 p0) fun x7 =>
  if x7 = 0 then (
  sf_bnd (sf_ret (b4 + (1 : Int32))) fun y9 =>
  sf_ret (.inl y9)
  ) else (
  sf_bnd (sf_gI 11 47 p0) fun x10 =>
  if x10 = 0 then (
  sf_ret (.inr (.inl (0 : Int32)))
  ) else (
  sf_bnd (sf_rc 11 p0 (jx_Mo_obeys p0)) fun x12 =>
  if 0 ≤ x12 then (
  sf_bnd (sf_gI 11 27 p0) fun x14 =>
  sf_bnd (sf_pI 11 27 p0 (x14 + (1 : Int32))) fun _ =>
  sf_bnd (sf_ret (b4 + (1 : Int32))) fun y15 =>
  sf_ret (.inl y15)
  ) else (
  sf_ret (.inr (.inl (0 : Int32)))
  )
  )
  )
  )
  ) sf_fuel (0 : Int32)) (fun e16 =>
  sf_bnd (sf_pI 11 44 p0 x3) fun _ =>
  sf_ret (1 : Int32)
  )
set_option maxRecDepth 20000 in
set_option maxHeartbeats 4000000 in
theorem ok_Mo_runs (p0 : Option Nat) (p1 : Int32) : sf_Ok ({ cls := "SplitFaresModel", name := "runs", desc := "(I)Z" } : Jvm.MethodName) prog_13_method_137_code 5 (some .boolean) 213 [sf_rv p0, .int p1] (jx_Mo_runs p0 p1) (fun r => some (.int r)) := by
  refine sf_Ok.of (env := [some (sf_rv p0), some (.int p1), none, none, none]) (plainFor_of_name (by decide)) [false, false] (fun G => ⟨pk_r, pk_i, trivial⟩) (Nat.le_of_ble_eq_true rfl) rfl (fun X => ?_)
  unfold jx_Mo_runs
  refine fp_aload_n (i := 0) (r := p0) dd_Mo_runs_0 rfl rfl (fr_pc (pc' := 1) rfl ?_)
  refine fp_iload_n (i := 1) (x := p1) dd_Mo_runs_1 rfl rfl (fr_pc (pc' := 2) rfl ?_)
  refine fp_iconst (v := (0 : Int32)) dd_Mo_runs_2 (by decide) (fr_pc (pc' := 3) rfl ?_)
  refine fr_callV (stk := []) (As := [.int p1, .int (0 : Int32)]) cl_11 (ok_Mo_goesAlong p0 p1 (0 : Int32)) mt_Mo_goesAlong rfl rfl sw_1753 sw_1755 sp_103 (by decide) (Nat.le_of_ble_eq_true rfl) dd_Mo_runs_3 (fun u1 => fr_to (pc' := 6) (env' := [some (sf_rv p0), some (.int p1), none, none, none]) (stk' := []) rfl rfl rfl ?_)
  refine fp_aload_n (i := 0) (r := p0) dd_Mo_runs_6 rfl rfl (fr_pc (pc' := 7) rfl ?_)
  refine fr_gI cl_11 45 (by decide) rfl sw_1117 dd_Mo_runs_7 (fun x2 => fr_pc (pc' := 10) rfl ?_)
  refine fp_istore_n (i := 2) dd_Mo_runs_10 rfl (Nat.le_of_ble_eq_true rfl) (fun _ => c1_i rfl) (fr_to (pc' := 11) (env' := [some (sf_rv p0), some (.int p1), some (.int x2), none, none]) (stk' := []) rfl rfl rfl ?_)
  refine fp_aload_n (i := 0) (r := p0) dd_Mo_runs_11 rfl rfl (fr_pc (pc' := 12) rfl ?_)
  refine fr_gI cl_11 22 (by decide) rfl sw_1094 dd_Mo_runs_12 (fun x3 => fr_pc (pc' := 15) rfl ?_)
  refine fp_istore_n (i := 3) dd_Mo_runs_15 rfl (Nat.le_of_ble_eq_true rfl) (fun _ => c1_i rfl) (fr_to (pc' := 16) (env' := [some (sf_rv p0), some (.int p1), some (.int x2), some (.int x3), none]) (stk' := []) rfl rfl rfl ?_)
  refine fp_iconst (v := (0 : Int32)) dd_Mo_runs_16 (by decide) (fr_pc (pc' := 17) rfl ?_)
  refine fp_istore (i := 4) dd_Mo_runs_17 (Nat.le_of_ble_eq_true rfl) (fun _ => c1_i rfl) (fr_to (pc' := 19) (env' := [some (sf_rv p0), some (.int p1), some (.int x2), some (.int x3), some (.int (0 : Int32))]) (stk' := []) rfl rfl rfl ?_)
  refine fr_to (pc' := 19) (env' := [some (sf_rv p0), some (.int p1), some (.int x2), some (.int x3), some (.int (0 : Int32))]) (stk' := []) rfl rfl rfl ?_
  refine fr_or (l1 := (fun (e16 : (Unit)) => sf_p 73 [some (sf_rv p0), some (.int p1), some (.int x2), some (.int x3), none] [])) (fr_loop (Lb := (fun (b4 : (Int32)) => sf_p 19 [some (sf_rv p0), some (.int p1), some (.int x2), some (.int x3), some (.int b4)] [])) (fun b4 => ?_) _ _) (fun e16 => ?_)
  · refine fp_iload (i := 4) (x := b4) dd_Mo_runs_19 rfl (fr_pc (pc' := 21) rfl ?_)
    refine fp_iload_n (i := 2) (x := x2) dd_Mo_runs_21 rfl rfl (fr_pc (pc' := 22) rfl ?_)
    refine fr_icmp_ge (tgt := 73) dd_Mo_runs_22 rfl (fun _ => ?_) (fun _ => ?_)
    · refine fr_wk [true, true, true, true, false] ?_
      exact fr_ret rfl
    · refine fr_pc (pc' := 25) rfl ?_
      refine fp_aload_n (i := 0) (r := p0) dd_Mo_runs_25 rfl rfl (fr_pc (pc' := 26) rfl ?_)
      refine fp_iload_n (i := 1) (x := p1) dd_Mo_runs_26 rfl rfl (fr_pc (pc' := 27) rfl ?_)
      refine fp_iconst (v := (1 : Int32)) dd_Mo_runs_27 (by decide) (fr_pc (pc' := 28) rfl ?_)
      refine fr_callV (stk := []) (As := [.int p1, .int (1 : Int32)]) cl_11 (ok_Mo_goesAlong p0 p1 (1 : Int32)) mt_Mo_goesAlong rfl rfl sw_1753 sw_1755 sp_103 (by decide) (Nat.le_of_ble_eq_true rfl) dd_Mo_runs_28 (fun u6 => fr_to (pc' := 31) (env' := [some (sf_rv p0), some (.int p1), some (.int x2), some (.int x3), some (.int b4)]) (stk' := []) rfl rfl rfl ?_)
      refine fp_aload_n (i := 0) (r := p0) dd_Mo_runs_31 rfl rfl (fr_pc (pc' := 32) rfl ?_)
      refine fr_gI cl_11 48 (by decide) rfl sw_1120 dd_Mo_runs_32 (fun x7 => fr_pc (pc' := 35) rfl ?_)
      refine fr_if_ne (tgt := 41) dd_Mo_runs_35 rfl (fun _ => ?_) (fun _ => ?_)
      · refine fr_pc (pc' := 38) rfl ?_
        refine fp_goto (tgt := 67) dd_Mo_runs_38 rfl ?_
        refine fr_niinc (i := 4) (x := b4) (w := (1 : Int32)) dd_Mo_runs_67 rfl (by decide) (Nat.le_of_ble_eq_true rfl) (fun _ => c1_i rfl) (fun y9 => fr_to (pc' := 70) (env' := [some (sf_rv p0), some (.int p1), some (.int x2), some (.int x3), some (.int y9)]) (stk' := []) rfl rfl rfl ?_)
        refine fp_goto (tgt := 19) dd_Mo_runs_70 rfl ?_
        exact fr_ret rfl
      · refine fp_aload_n (i := 0) (r := p0) dd_Mo_runs_41 rfl rfl (fr_pc (pc' := 42) rfl ?_)
        refine fr_gI cl_11 47 (by decide) rfl sw_1119 dd_Mo_runs_42 (fun x10 => fr_pc (pc' := 45) rfl ?_)
        refine fr_if_eq (tgt := 55) dd_Mo_runs_45 rfl (fun _ => ?_) (fun _ => ?_)
        · refine fp_iconst (v := (0 : Int32)) dd_Mo_runs_55 (by decide) (fr_pc (pc' := 56) rfl ?_)
          exact fr_zret0 (v := (0 : Int32)) (Or.inl rfl) rfl rfl dd_Mo_runs_56
        · refine fr_pc (pc' := 48) rfl ?_
          refine fp_aload_n (i := 0) (r := p0) dd_Mo_runs_48 rfl rfl (fr_pc (pc' := 49) rfl ?_)
          refine fr_callV (stk := []) (As := []) cl_11 (ok_Mo_obeys p0) mt_Mo_obeys rfl rfl sw_1757 sw_1759 sp_104 (by decide) (Nat.le_of_ble_eq_true rfl) dd_Mo_runs_49 (fun x12 => fr_to (pc' := 52) (env' := [some (sf_rv p0), some (.int p1), some (.int x2), some (.int x3), some (.int b4)]) (stk' := [.int x12]) rfl rfl rfl ?_)
          refine fr_if_ge (tgt := 57) dd_Mo_runs_52 rfl (fun _ => ?_) (fun _ => ?_)
          · refine fp_aload_n (i := 0) (r := p0) dd_Mo_runs_57 rfl rfl (fr_pc (pc' := 58) rfl ?_)
            refine fp_dup_r dd_Mo_runs_58 (fr_pc (pc' := 59) rfl ?_)
            refine fr_gI cl_11 27 (by decide) rfl sw_1099 dd_Mo_runs_59 (fun x14 => fr_pc (pc' := 62) rfl ?_)
            refine fp_iconst (v := (1 : Int32)) dd_Mo_runs_62 (by decide) (fr_pc (pc' := 63) rfl ?_)
            refine fp_iadd dd_Mo_runs_63 (fr_pc (pc' := 64) rfl ?_)
            refine fr_pI cl_11 27 (by decide) rfl sw_1099 rfl ⟨rfl, rfl⟩ dd_Mo_runs_64 (fr_pc (pc' := 67) rfl ?_)
            refine fr_niinc (i := 4) (x := b4) (w := (1 : Int32)) dd_Mo_runs_67 rfl (by decide) (Nat.le_of_ble_eq_true rfl) (fun _ => c1_i rfl) (fun y15 => fr_to (pc' := 70) (env' := [some (sf_rv p0), some (.int p1), some (.int x2), some (.int x3), some (.int y15)]) (stk' := []) rfl rfl rfl ?_)
            refine fp_goto (tgt := 19) dd_Mo_runs_70 rfl ?_
            exact fr_ret rfl
          · refine fr_pc (pc' := 55) rfl ?_
            refine fp_iconst (v := (0 : Int32)) dd_Mo_runs_55 (by decide) (fr_pc (pc' := 56) rfl ?_)
            exact fr_zret0 (v := (0 : Int32)) (Or.inl rfl) rfl rfl dd_Mo_runs_56
  · refine fp_aload_n (i := 0) (r := p0) dd_Mo_runs_73 rfl rfl (fr_pc (pc' := 74) rfl ?_)
    refine fp_iload_n (i := 3) (x := x3) dd_Mo_runs_74 rfl rfl (fr_pc (pc' := 75) rfl ?_)
    refine fr_pI cl_11 44 (by decide) rfl sw_1116 rfl ⟨rfl, rfl⟩ dd_Mo_runs_75 (fr_pc (pc' := 78) rfl ?_)
    refine fp_iconst (v := (1 : Int32)) dd_Mo_runs_78 (by decide) (fr_pc (pc' := 79) rfl ?_)
    exact fr_zret0 (v := (1 : Int32)) (Or.inr rfl) rfl rfl dd_Mo_runs_79
theorem mt_Mo_orders : sf_Mt ({ cls := "SplitFaresModel", name := "orders", desc := "()I" } : Jvm.MethodName) prog_13_method_133_code 5 (some .int) 0 := ⟨sw_1744, sw_12, ⟨by decide, by decide, by decide +kernel⟩, by decide⟩
theorem dd_Mo_orders_0 : decode prog_13_method_133_code 0 = .ok (.aload_n 0, 1) := by decide +kernel
theorem dd_Mo_orders_1 : decode prog_13_method_133_code 1 = .ok (.iconst (-1), 1) := by decide +kernel
theorem dd_Mo_orders_2 : decode prog_13_method_133_code 2 = .ok (.putfield 107, 3) := by decide +kernel
theorem dd_Mo_orders_5 : decode prog_13_method_133_code 5 = .ok (.aload_n 0, 1) := by decide +kernel
theorem dd_Mo_orders_6 : decode prog_13_method_133_code 6 = .ok (.iconst 1, 1) := by decide +kernel
theorem dd_Mo_orders_7 : decode prog_13_method_133_code 7 = .ok (.invokevirtual 252, 3) := by decide +kernel
theorem dd_Mo_orders_10 : decode prog_13_method_133_code 10 = .ok (.ifCond .ne 10, 3) := by decide +kernel
theorem dd_Mo_orders_13 : decode prog_13_method_133_code 13 = .ok (.aload_n 0, 1) := by decide +kernel
theorem dd_Mo_orders_14 : decode prog_13_method_133_code 14 = .ok (.bipush (-6), 2) := by decide +kernel
theorem dd_Mo_orders_16 : decode prog_13_method_133_code 16 = .ok (.invokevirtual 116, 3) := by decide +kernel
theorem dd_Mo_orders_19 : decode prog_13_method_133_code 19 = .ok (.ireturn, 1) := by decide +kernel
theorem dd_Mo_orders_20 : decode prog_13_method_133_code 20 = .ok (.aload_n 0, 1) := by decide +kernel
theorem dd_Mo_orders_21 : decode prog_13_method_133_code 21 = .ok (.iconst 1, 1) := by decide +kernel
theorem dd_Mo_orders_22 : decode prog_13_method_133_code 22 = .ok (.invokevirtual 465, 3) := by decide +kernel
theorem dd_Mo_orders_25 : decode prog_13_method_133_code 25 = .ok (.iconst 0, 1) := by decide +kernel
theorem dd_Mo_orders_26 : decode prog_13_method_133_code 26 = .ok (.istore_n 1, 1) := by decide +kernel
theorem dd_Mo_orders_27 : decode prog_13_method_133_code 27 = .ok (.iload_n 1, 1) := by decide +kernel
theorem dd_Mo_orders_28 : decode prog_13_method_133_code 28 = .ok (.sipush 3136, 3) := by decide +kernel
theorem dd_Mo_orders_31 : decode prog_13_method_133_code 31 = .ok (.if_icmp .ge 21, 3) := by decide +kernel
theorem dd_Mo_orders_34 : decode prog_13_method_133_code 34 = .ok (.aload_n 0, 1) := by decide +kernel
theorem dd_Mo_orders_35 : decode prog_13_method_133_code 35 = .ok (.getfield 97, 3) := by decide +kernel
theorem dd_Mo_orders_38 : decode prog_13_method_133_code 38 = .ok (.iload_n 1, 1) := by decide +kernel
theorem dd_Mo_orders_39 : decode prog_13_method_133_code 39 = .ok (.aload_n 0, 1) := by decide +kernel
theorem dd_Mo_orders_40 : decode prog_13_method_133_code 40 = .ok (.getfield 94, 3) := by decide +kernel
theorem dd_Mo_orders_43 : decode prog_13_method_133_code 43 = .ok (.iload_n 1, 1) := by decide +kernel
theorem dd_Mo_orders_44 : decode prog_13_method_133_code 44 = .ok (.iaload, 1) := by decide +kernel
theorem dd_Mo_orders_45 : decode prog_13_method_133_code 45 = .ok (.iastore, 1) := by decide +kernel
theorem dd_Mo_orders_46 : decode prog_13_method_133_code 46 = .ok (.iinc 1 1, 3) := by decide +kernel
theorem dd_Mo_orders_49 : decode prog_13_method_133_code 49 = .ok (.goto (-22), 3) := by decide +kernel
theorem dd_Mo_orders_52 : decode prog_13_method_133_code 52 = .ok (.aload_n 0, 1) := by decide +kernel
theorem dd_Mo_orders_53 : decode prog_13_method_133_code 53 = .ok (.getfield 11, 3) := by decide +kernel
theorem dd_Mo_orders_56 : decode prog_13_method_133_code 56 = .ok (.istore_n 1, 1) := by decide +kernel
theorem dd_Mo_orders_57 : decode prog_13_method_133_code 57 = .ok (.aload_n 0, 1) := by decide +kernel
theorem dd_Mo_orders_58 : decode prog_13_method_133_code 58 = .ok (.bipush 6, 2) := by decide +kernel
theorem dd_Mo_orders_60 : decode prog_13_method_133_code 60 = .ok (.invokevirtual 256, 3) := by decide +kernel
theorem dd_Mo_orders_63 : decode prog_13_method_133_code 63 = .ok (.aload_n 0, 1) := by decide +kernel
theorem dd_Mo_orders_64 : decode prog_13_method_133_code 64 = .ok (.iconst 0, 1) := by decide +kernel
theorem dd_Mo_orders_65 : decode prog_13_method_133_code 65 = .ok (.putfield 301, 3) := by decide +kernel
theorem dd_Mo_orders_68 : decode prog_13_method_133_code 68 = .ok (.aload_n 0, 1) := by decide +kernel
theorem dd_Mo_orders_69 : decode prog_13_method_133_code 69 = .ok (.iconst (-1), 1) := by decide +kernel
theorem dd_Mo_orders_70 : decode prog_13_method_133_code 70 = .ok (.putfield 304, 3) := by decide +kernel
theorem dd_Mo_orders_73 : decode prog_13_method_133_code 73 = .ok (.aload_n 0, 1) := by decide +kernel
theorem dd_Mo_orders_74 : decode prog_13_method_133_code 74 = .ok (.sipush 2400, 3) := by decide +kernel
theorem dd_Mo_orders_77 : decode prog_13_method_133_code 77 = .ok (.putfield 468, 3) := by decide +kernel
theorem dd_Mo_orders_80 : decode prog_13_method_133_code 80 = .ok (.aload_n 0, 1) := by decide +kernel
theorem dd_Mo_orders_81 : decode prog_13_method_133_code 81 = .ok (.getfield 468, 3) := by decide +kernel
theorem dd_Mo_orders_84 : decode prog_13_method_133_code 84 = .ok (.aload_n 0, 1) := by decide +kernel
theorem dd_Mo_orders_85 : decode prog_13_method_133_code 85 = .ok (.getfield 32, 3) := by decide +kernel
theorem dd_Mo_orders_88 : decode prog_13_method_133_code 88 = .ok (.sipush 237, 3) := by decide +kernel
theorem dd_Mo_orders_91 : decode prog_13_method_133_code 91 = .ok (.iaload, 1) := by decide +kernel
theorem dd_Mo_orders_92 : decode prog_13_method_133_code 92 = .ok (.iadd, 1) := by decide +kernel
theorem dd_Mo_orders_93 : decode prog_13_method_133_code 93 = .ok (.istore_n 2, 1) := by decide +kernel
theorem dd_Mo_orders_94 : decode prog_13_method_133_code 94 = .ok (.iconst 0, 1) := by decide +kernel
theorem dd_Mo_orders_95 : decode prog_13_method_133_code 95 = .ok (.istore_n 3, 1) := by decide +kernel
theorem dd_Mo_orders_96 : decode prog_13_method_133_code 96 = .ok (.aload_n 0, 1) := by decide +kernel
theorem dd_Mo_orders_97 : decode prog_13_method_133_code 97 = .ok (.getfield 468, 3) := by decide +kernel
theorem dd_Mo_orders_100 : decode prog_13_method_133_code 100 = .ok (.iload_n 2, 1) := by decide +kernel
theorem dd_Mo_orders_101 : decode prog_13_method_133_code 101 = .ok (.if_icmp .ge 73, 3) := by decide +kernel
theorem dd_Mo_orders_104 : decode prog_13_method_133_code 104 = .ok (.aload_n 0, 1) := by decide +kernel
theorem dd_Mo_orders_105 : decode prog_13_method_133_code 105 = .ok (.iload_n 2, 1) := by decide +kernel
theorem dd_Mo_orders_106 : decode prog_13_method_133_code 106 = .ok (.invokevirtual 471, 3) := by decide +kernel
theorem dd_Mo_orders_109 : decode prog_13_method_133_code 109 = .ok (.ifCond .eq 6, 3) := by decide +kernel
theorem dd_Mo_orders_112 : decode prog_13_method_133_code 112 = .ok (.goto 56, 3) := by decide +kernel
theorem dd_Mo_orders_168 : decode prog_13_method_133_code 168 = .ok (.iinc 3 1, 3) := by decide +kernel
theorem dd_Mo_orders_171 : decode prog_13_method_133_code 171 = .ok (.goto (-75), 3) := by decide +kernel
theorem dd_Mo_orders_115 : decode prog_13_method_133_code 115 = .ok (.aload_n 0, 1) := by decide +kernel
theorem dd_Mo_orders_116 : decode prog_13_method_133_code 116 = .ok (.iconst 1, 1) := by decide +kernel
theorem dd_Mo_orders_117 : decode prog_13_method_133_code 117 = .ok (.invokevirtual 474, 3) := by decide +kernel
theorem dd_Mo_orders_120 : decode prog_13_method_133_code 120 = .ok (.iconst 0, 1) := by decide +kernel
theorem dd_Mo_orders_121 : decode prog_13_method_133_code 121 = .ok (.istore 4, 2) := by decide +kernel
theorem dd_Mo_orders_123 : decode prog_13_method_133_code 123 = .ok (.iload 4, 2) := by decide +kernel
theorem dd_Mo_orders_125 : decode prog_13_method_133_code 125 = .ok (.sipush 3136, 3) := by decide +kernel
theorem dd_Mo_orders_128 : decode prog_13_method_133_code 128 = .ok (.if_icmp .ge 23, 3) := by decide +kernel
theorem dd_Mo_orders_131 : decode prog_13_method_133_code 131 = .ok (.aload_n 0, 1) := by decide +kernel
theorem dd_Mo_orders_132 : decode prog_13_method_133_code 132 = .ok (.getfield 94, 3) := by decide +kernel
theorem dd_Mo_orders_135 : decode prog_13_method_133_code 135 = .ok (.iload 4, 2) := by decide +kernel
theorem dd_Mo_orders_137 : decode prog_13_method_133_code 137 = .ok (.aload_n 0, 1) := by decide +kernel
theorem dd_Mo_orders_138 : decode prog_13_method_133_code 138 = .ok (.getfield 97, 3) := by decide +kernel
theorem dd_Mo_orders_141 : decode prog_13_method_133_code 141 = .ok (.iload 4, 2) := by decide +kernel
theorem dd_Mo_orders_143 : decode prog_13_method_133_code 143 = .ok (.iaload, 1) := by decide +kernel
theorem dd_Mo_orders_144 : decode prog_13_method_133_code 144 = .ok (.iastore, 1) := by decide +kernel
theorem dd_Mo_orders_145 : decode prog_13_method_133_code 145 = .ok (.iinc 4 1, 3) := by decide +kernel
theorem dd_Mo_orders_148 : decode prog_13_method_133_code 148 = .ok (.goto (-25), 3) := by decide +kernel
theorem dd_Mo_orders_151 : decode prog_13_method_133_code 151 = .ok (.aload_n 0, 1) := by decide +kernel
theorem dd_Mo_orders_152 : decode prog_13_method_133_code 152 = .ok (.iload_n 1, 1) := by decide +kernel
theorem dd_Mo_orders_153 : decode prog_13_method_133_code 153 = .ok (.putfield 11, 3) := by decide +kernel
theorem dd_Mo_orders_156 : decode prog_13_method_133_code 156 = .ok (.aload_n 0, 1) := by decide +kernel
theorem dd_Mo_orders_157 : decode prog_13_method_133_code 157 = .ok (.iload_n 3, 1) := by decide +kernel
theorem dd_Mo_orders_158 : decode prog_13_method_133_code 158 = .ok (.putfield 107, 3) := by decide +kernel
theorem dd_Mo_orders_161 : decode prog_13_method_133_code 161 = .ok (.aload_n 0, 1) := by decide +kernel
theorem dd_Mo_orders_162 : decode prog_13_method_133_code 162 = .ok (.bipush (-3), 2) := by decide +kernel
theorem dd_Mo_orders_164 : decode prog_13_method_133_code 164 = .ok (.invokevirtual 116, 3) := by decide +kernel
theorem dd_Mo_orders_167 : decode prog_13_method_133_code 167 = .ok (.ireturn, 1) := by decide +kernel
theorem dd_Mo_orders_174 : decode prog_13_method_133_code 174 = .ok (.aload_n 0, 1) := by decide +kernel
theorem dd_Mo_orders_175 : decode prog_13_method_133_code 175 = .ok (.aload_n 0, 1) := by decide +kernel
theorem dd_Mo_orders_176 : decode prog_13_method_133_code 176 = .ok (.getfield 301, 3) := by decide +kernel
theorem dd_Mo_orders_179 : decode prog_13_method_133_code 179 = .ok (.invokevirtual 14, 3) := by decide +kernel
theorem dd_Mo_orders_182 : decode prog_13_method_133_code 182 = .ok (.ireturn, 1) := by decide +kernel
def jx_Mo_orders (p0 : Option Nat) : sf_M (Int32) :=
  sf_bnd (sf_pI 11 43 p0 (-1 : Int32)) fun _ =>
  sf_bnd (sf_rc 11 p0 (jx_Mo_readsAs p0 (1 : Int32))) fun x1 =>
  if x1 = 0 then (
  sf_bnd (sf_rc 11 p0 (jx_Mo_refuses p0 (-6 : Int32))) fun x3 =>
  sf_ret x3
  ) else (
  sf_bnd (sf_rc 11 p0 (jx_Mo_laysAside p0 (1 : Int32))) fun _ =>
  sf_bnd (sf_loop (β := (Int32)) (γ := (Unit)) (fun b5 =>
  if (3136 : Int32) ≤ b5 then (
  sf_ret (.inr ())
  ) else (
  sf_bnd (sf_gR 11 39 p0) fun x7 =>
  sf_bnd (sf_gR 11 38 p0) fun x8 =>
  sf_bnd (sf_aI 0 x8 b5) fun x9 =>
  sf_bnd (sf_sI 0 x7 b5 x9) fun _ =>
  sf_bnd (sf_ret (b5 + (1 : Int32))) fun y10 =>
  sf_ret (.inl y10)
  )
  ) sf_fuel (0 : Int32)) (fun e11 =>
  sf_bnd (sf_gI 11 40 p0) fun x12 =>
  sf_bnd (sf_rc 11 p0 (jx_Mo_lays p0 (6 : Int32))) fun _ =>
  sf_bnd (sf_pI 11 27 p0 (0 : Int32)) fun _ =>
  sf_bnd (sf_pI 11 28 p0 (-1 : Int32)) fun _ =>
  sf_bnd (sf_pI 11 44 p0 (2400 : Int32)) fun _ =>
  sf_bnd (sf_gI 11 44 p0) fun x14 =>
  sf_bnd (sf_gR 11 2 p0) fun x15 =>
  sf_bnd (sf_aI 0 x15 (237 : Int32)) fun x16 =>
  sf_bnd (sf_ret ((x14 + x16))) fun y17 =>
  sf_or (α := Int32) (β := (Unit)) (sf_loop (β := (Int32)) (γ := (Int32 ⊕ (Unit))) (fun b18 =>
  sf_bnd (sf_gI 11 44 p0) fun x19 =>
  if y17 ≤ x19 then (
  sf_ret (.inr (.inr ()))
  ) else (
  sf_bnd (sf_rc 11 p0 (jx_Mo_runs p0 y17)) fun x21 =>
  if x21 = 0 then (
  sf_bnd (sf_rc 11 p0 (jx_Mo_takesBack p0 (1 : Int32))) fun _ =>
  sf_bnd (sf_loop (β := (Int32)) (γ := (Unit)) (fun b24 =>
  if (3136 : Int32) ≤ b24 then (
  sf_ret (.inr ())
  ) else (
  sf_bnd (sf_gR 11 38 p0) fun x26 =>
  sf_bnd (sf_gR 11 39 p0) fun x27 =>
  sf_bnd (sf_aI 0 x27 b24) fun x28 =>
  sf_bnd (sf_sI 0 x26 b24 x28) fun _ =>
  sf_bnd (sf_ret (b24 + (1 : Int32))) fun y29 =>
  sf_ret (.inl y29)
  )
  ) sf_fuel (0 : Int32)) (fun e30 =>
  sf_bnd (sf_pI 11 40 p0 x12) fun _ =>
  sf_bnd (sf_pI 11 43 p0 b18) fun _ =>
  sf_bnd (sf_rc 11 p0 (jx_Mo_refuses p0 (-3 : Int32))) fun x31 =>
  sf_ret (.inr (.inl x31))
  )
  ) else (
  sf_bnd (sf_ret (b18 + (1 : Int32))) fun y32 =>
  sf_ret (.inl y32)
  )
  )
  ) sf_fuel (0 : Int32)) (fun e33 =>
  sf_bnd (sf_gI 11 27 p0) fun x34 =>
  sf_bnd (sf_rc 11 p0 (jx_Mo_good p0 x34)) fun x35 =>
  sf_ret x35
  )
  )
  )
set_option maxRecDepth 20000 in
set_option maxHeartbeats 4000000 in
theorem ok_Mo_orders (p0 : Option Nat) : sf_Ok ({ cls := "SplitFaresModel", name := "orders", desc := "()I" } : Jvm.MethodName) prog_13_method_133_code 5 (some .int) 214 [sf_rv p0] (jx_Mo_orders p0) (fun r => some (.int r)) := by
  refine sf_Ok.of (env := [some (sf_rv p0), none, none, none, none]) (plainFor_of_name (by decide)) [false] (fun G => ⟨pk_r, trivial⟩) (Nat.le_of_ble_eq_true rfl) rfl (fun X => ?_)
  unfold jx_Mo_orders
  refine fp_aload_n (i := 0) (r := p0) dd_Mo_orders_0 rfl rfl (fr_pc (pc' := 1) rfl ?_)
  refine fp_iconst (v := (-1 : Int32)) dd_Mo_orders_1 (by decide) (fr_pc (pc' := 2) rfl ?_)
  refine fr_pI cl_11 43 (by decide) rfl sw_1115 rfl ⟨rfl, rfl⟩ dd_Mo_orders_2 (fr_pc (pc' := 5) rfl ?_)
  refine fp_aload_n (i := 0) (r := p0) dd_Mo_orders_5 rfl rfl (fr_pc (pc' := 6) rfl ?_)
  refine fp_iconst (v := (1 : Int32)) dd_Mo_orders_6 (by decide) (fr_pc (pc' := 7) rfl ?_)
  refine fr_callV (stk := []) (As := [.int (1 : Int32)]) cl_11 (ok_Mo_readsAs p0 (1 : Int32)) mt_Mo_readsAs rfl rfl sw_1324 sw_1326 sp_32 (by decide) (Nat.le_of_ble_eq_true rfl) dd_Mo_orders_7 (fun x1 => fr_to (pc' := 10) (env' := [some (sf_rv p0), none, none, none, none]) (stk' := [.int x1]) rfl rfl rfl ?_)
  refine fr_if_ne (tgt := 20) dd_Mo_orders_10 rfl (fun _ => ?_) (fun _ => ?_)
  · refine fr_pc (pc' := 13) rfl ?_
    refine fp_aload_n (i := 0) (r := p0) dd_Mo_orders_13 rfl rfl (fr_pc (pc' := 14) rfl ?_)
    refine fp_bipush (v := (-6 : Int32)) dd_Mo_orders_14 (by decide) (fr_pc (pc' := 16) rfl ?_)
    refine fr_callV (stk := []) (As := [.int (-6 : Int32)]) cl_11 (ok_Mo_refuses p0 (-6 : Int32)) mt_Mo_refuses rfl rfl sw_1240 sw_1242 sp_27 (by decide) (Nat.le_of_ble_eq_true rfl) dd_Mo_orders_16 (fun x3 => fr_to (pc' := 19) (env' := [some (sf_rv p0), none, none, none, none]) (stk' := [.int x3]) rfl rfl rfl ?_)
    exact fr_iret (v := x3) rfl rfl dd_Mo_orders_19
  · refine fp_aload_n (i := 0) (r := p0) dd_Mo_orders_20 rfl rfl (fr_pc (pc' := 21) rfl ?_)
    refine fp_iconst (v := (1 : Int32)) dd_Mo_orders_21 (by decide) (fr_pc (pc' := 22) rfl ?_)
    refine fr_callV (stk := []) (As := [.int (1 : Int32)]) cl_11 (ok_Mo_laysAside p0 (1 : Int32)) mt_Mo_laysAside rfl rfl sw_1745 sw_1747 sp_101 (by decide) (Nat.le_of_ble_eq_true rfl) dd_Mo_orders_22 (fun u4 => fr_to (pc' := 25) (env' := [some (sf_rv p0), none, none, none, none]) (stk' := []) rfl rfl rfl ?_)
    refine fp_iconst (v := (0 : Int32)) dd_Mo_orders_25 (by decide) (fr_pc (pc' := 26) rfl ?_)
    refine fp_istore_n (i := 1) dd_Mo_orders_26 rfl (Nat.le_of_ble_eq_true rfl) (fun _ => c1_r rfl) (fr_to (pc' := 27) (env' := [some (sf_rv p0), some (.int (0 : Int32)), none, none, none]) (stk' := []) rfl rfl rfl ?_)
    refine fr_to (pc' := 27) (env' := [some (sf_rv p0), some (.int (0 : Int32)), none, none, none]) (stk' := []) rfl rfl rfl ?_
    refine fr_bnd (l1 := (fun (e11 : (Unit)) => sf_p 52 [some (sf_rv p0), none, none, none, none] [])) (fr_loop (Lb := (fun (b5 : (Int32)) => sf_p 27 [some (sf_rv p0), some (.int b5), none, none, none] [])) (fun b5 => ?_) _ _) (fun e11 => ?_)
    · refine fp_iload_n (i := 1) (x := b5) dd_Mo_orders_27 rfl rfl (fr_pc (pc' := 28) rfl ?_)
      refine fp_sipush (v := (3136 : Int32)) dd_Mo_orders_28 (by decide) (fr_pc (pc' := 31) rfl ?_)
      refine fr_icmp_ge (tgt := 52) dd_Mo_orders_31 rfl (fun _ => ?_) (fun _ => ?_)
      · refine fr_wk [true, false, false, false, false] ?_
        exact fr_ret rfl
      · refine fr_pc (pc' := 34) rfl ?_
        refine fp_aload_n (i := 0) (r := p0) dd_Mo_orders_34 rfl rfl (fr_pc (pc' := 35) rfl ?_)
        refine fr_gR cl_11 39 (by decide) rfl sw_1111 dd_Mo_orders_35 (fun x7 => fr_pc (pc' := 38) rfl ?_)
        refine fp_iload_n (i := 1) (x := b5) dd_Mo_orders_38 rfl rfl (fr_pc (pc' := 39) rfl ?_)
        refine fp_aload_n (i := 0) (r := p0) dd_Mo_orders_39 rfl rfl (fr_pc (pc' := 40) rfl ?_)
        refine fr_gR cl_11 38 (by decide) rfl sw_1110 dd_Mo_orders_40 (fun x8 => fr_pc (pc' := 43) rfl ?_)
        refine fp_iload_n (i := 1) (x := b5) dd_Mo_orders_43 rfl rfl (fr_pc (pc' := 44) rfl ?_)
        refine fr_aI0 dd_Mo_orders_44 (fun x9 => fr_pc (pc' := 45) rfl ?_)
        refine fr_sI0 dd_Mo_orders_45 (fr_pc (pc' := 46) rfl ?_)
        refine fr_niinc (i := 1) (x := b5) (w := (1 : Int32)) dd_Mo_orders_46 rfl (by decide) (Nat.le_of_ble_eq_true rfl) (fun _ => c1_r rfl) (fun y10 => fr_to (pc' := 49) (env' := [some (sf_rv p0), some (.int y10), none, none, none]) (stk' := []) rfl rfl rfl ?_)
        refine fp_goto (tgt := 27) dd_Mo_orders_49 rfl ?_
        exact fr_ret rfl
    · refine fp_aload_n (i := 0) (r := p0) dd_Mo_orders_52 rfl rfl (fr_pc (pc' := 53) rfl ?_)
      refine fr_gI cl_11 40 (by decide) rfl sw_1112 dd_Mo_orders_53 (fun x12 => fr_pc (pc' := 56) rfl ?_)
      refine fp_istore_n (i := 1) dd_Mo_orders_56 rfl (Nat.le_of_ble_eq_true rfl) (fun _ => c1_r rfl) (fr_to (pc' := 57) (env' := [some (sf_rv p0), some (.int x12), none, none, none]) (stk' := []) rfl rfl rfl ?_)
      refine fp_aload_n (i := 0) (r := p0) dd_Mo_orders_57 rfl rfl (fr_pc (pc' := 58) rfl ?_)
      refine fp_bipush (v := (6 : Int32)) dd_Mo_orders_58 (by decide) (fr_pc (pc' := 60) rfl ?_)
      refine fr_callV (stk := []) (As := [.int (6 : Int32)]) cl_11 (ok_Mo_lays p0 (6 : Int32)) mt_Mo_lays rfl rfl sw_1410 sw_1412 sp_51 (by decide) (Nat.le_of_ble_eq_true rfl) dd_Mo_orders_60 (fun u13 => fr_to (pc' := 63) (env' := [some (sf_rv p0), some (.int x12), none, none, none]) (stk' := []) rfl rfl rfl ?_)
      refine fp_aload_n (i := 0) (r := p0) dd_Mo_orders_63 rfl rfl (fr_pc (pc' := 64) rfl ?_)
      refine fp_iconst (v := (0 : Int32)) dd_Mo_orders_64 (by decide) (fr_pc (pc' := 65) rfl ?_)
      refine fr_pI cl_11 27 (by decide) rfl sw_1099 rfl ⟨rfl, rfl⟩ dd_Mo_orders_65 (fr_pc (pc' := 68) rfl ?_)
      refine fp_aload_n (i := 0) (r := p0) dd_Mo_orders_68 rfl rfl (fr_pc (pc' := 69) rfl ?_)
      refine fp_iconst (v := (-1 : Int32)) dd_Mo_orders_69 (by decide) (fr_pc (pc' := 70) rfl ?_)
      refine fr_pI cl_11 28 (by decide) rfl sw_1100 rfl ⟨rfl, rfl⟩ dd_Mo_orders_70 (fr_pc (pc' := 73) rfl ?_)
      refine fp_aload_n (i := 0) (r := p0) dd_Mo_orders_73 rfl rfl (fr_pc (pc' := 74) rfl ?_)
      refine fp_sipush (v := (2400 : Int32)) dd_Mo_orders_74 (by decide) (fr_pc (pc' := 77) rfl ?_)
      refine fr_pI cl_11 44 (by decide) rfl sw_1116 rfl ⟨rfl, rfl⟩ dd_Mo_orders_77 (fr_pc (pc' := 80) rfl ?_)
      refine fp_aload_n (i := 0) (r := p0) dd_Mo_orders_80 rfl rfl (fr_pc (pc' := 81) rfl ?_)
      refine fr_gI cl_11 44 (by decide) rfl sw_1116 dd_Mo_orders_81 (fun x14 => fr_pc (pc' := 84) rfl ?_)
      refine fp_aload_n (i := 0) (r := p0) dd_Mo_orders_84 rfl rfl (fr_pc (pc' := 85) rfl ?_)
      refine fr_gR cl_11 2 (by decide) rfl sw_1074 dd_Mo_orders_85 (fun x15 => fr_pc (pc' := 88) rfl ?_)
      refine fp_sipush (v := (237 : Int32)) dd_Mo_orders_88 (by decide) (fr_pc (pc' := 91) rfl ?_)
      refine fr_aI0 dd_Mo_orders_91 (fun x16 => fr_pc (pc' := 92) rfl ?_)
      refine fp_iadd dd_Mo_orders_92 (fr_pc (pc' := 93) rfl ?_)
      refine fr_nistore_n (i := 2) dd_Mo_orders_93 rfl (Nat.le_of_ble_eq_true rfl) (fun _ => c1_i rfl) (fun y17 => fr_to (pc' := 94) (env' := [some (sf_rv p0), some (.int x12), some (.int y17), none, none]) (stk' := []) rfl rfl rfl ?_)
      refine fp_iconst (v := (0 : Int32)) dd_Mo_orders_94 (by decide) (fr_pc (pc' := 95) rfl ?_)
      refine fp_istore_n (i := 3) dd_Mo_orders_95 rfl (Nat.le_of_ble_eq_true rfl) (fun _ => c1_i rfl) (fr_to (pc' := 96) (env' := [some (sf_rv p0), some (.int x12), some (.int y17), some (.int (0 : Int32)), none]) (stk' := []) rfl rfl rfl ?_)
      refine fr_to (pc' := 96) (env' := [some (sf_rv p0), some (.int x12), some (.int y17), some (.int (0 : Int32)), none]) (stk' := []) rfl rfl rfl ?_
      refine fr_or (l1 := (fun (e33 : (Unit)) => sf_p 174 [some (sf_rv p0), some (.int x12), some (.int y17), none, none] [])) (fr_loop (Lb := (fun (b18 : (Int32)) => sf_p 96 [some (sf_rv p0), some (.int x12), some (.int y17), some (.int b18), none] [])) (fun b18 => ?_) _ _) (fun e33 => ?_)
      · refine fp_aload_n (i := 0) (r := p0) dd_Mo_orders_96 rfl rfl (fr_pc (pc' := 97) rfl ?_)
        refine fr_gI cl_11 44 (by decide) rfl sw_1116 dd_Mo_orders_97 (fun x19 => fr_pc (pc' := 100) rfl ?_)
        refine fp_iload_n (i := 2) (x := y17) dd_Mo_orders_100 rfl rfl (fr_pc (pc' := 101) rfl ?_)
        refine fr_icmp_ge (tgt := 174) dd_Mo_orders_101 rfl (fun _ => ?_) (fun _ => ?_)
        · refine fr_wk [true, true, true, false, false] ?_
          exact fr_ret rfl
        · refine fr_pc (pc' := 104) rfl ?_
          refine fp_aload_n (i := 0) (r := p0) dd_Mo_orders_104 rfl rfl (fr_pc (pc' := 105) rfl ?_)
          refine fp_iload_n (i := 2) (x := y17) dd_Mo_orders_105 rfl rfl (fr_pc (pc' := 106) rfl ?_)
          refine fr_callV (stk := []) (As := [.int y17]) cl_11 (ok_Mo_runs p0 y17) mt_Mo_runs rfl rfl sw_1749 sw_1751 sp_102 (by decide) (Nat.le_of_ble_eq_true rfl) dd_Mo_orders_106 (fun x21 => fr_to (pc' := 109) (env' := [some (sf_rv p0), some (.int x12), some (.int y17), some (.int b18), none]) (stk' := [.int x21]) rfl rfl rfl ?_)
          refine fr_if_eq (tgt := 115) dd_Mo_orders_109 rfl (fun _ => ?_) (fun _ => ?_)
          · refine fp_aload_n (i := 0) (r := p0) dd_Mo_orders_115 rfl rfl (fr_pc (pc' := 116) rfl ?_)
            refine fp_iconst (v := (1 : Int32)) dd_Mo_orders_116 (by decide) (fr_pc (pc' := 117) rfl ?_)
            refine fr_callV (stk := []) (As := [.int (1 : Int32)]) cl_11 (ok_Mo_takesBack p0 (1 : Int32)) mt_Mo_takesBack rfl rfl sw_1765 sw_1767 sp_105 (by decide) (Nat.le_of_ble_eq_true rfl) dd_Mo_orders_117 (fun u23 => fr_to (pc' := 120) (env' := [some (sf_rv p0), some (.int x12), some (.int y17), some (.int b18), none]) (stk' := []) rfl rfl rfl ?_)
            refine fp_iconst (v := (0 : Int32)) dd_Mo_orders_120 (by decide) (fr_pc (pc' := 121) rfl ?_)
            refine fp_istore (i := 4) dd_Mo_orders_121 (Nat.le_of_ble_eq_true rfl) (fun _ => c1_i rfl) (fr_to (pc' := 123) (env' := [some (sf_rv p0), some (.int x12), some (.int y17), some (.int b18), some (.int (0 : Int32))]) (stk' := []) rfl rfl rfl ?_)
            refine fr_to (pc' := 123) (env' := [some (sf_rv p0), some (.int x12), some (.int y17), some (.int b18), some (.int (0 : Int32))]) (stk' := []) rfl rfl rfl ?_
            refine fr_bnd (l1 := (fun (e30 : (Unit)) => sf_p 151 [some (sf_rv p0), some (.int x12), some (.int y17), some (.int b18), none] [])) (fr_loop (Lb := (fun (b24 : (Int32)) => sf_p 123 [some (sf_rv p0), some (.int x12), some (.int y17), some (.int b18), some (.int b24)] [])) (fun b24 => ?_) _ _) (fun e30 => ?_)
            · refine fp_iload (i := 4) (x := b24) dd_Mo_orders_123 rfl (fr_pc (pc' := 125) rfl ?_)
              refine fp_sipush (v := (3136 : Int32)) dd_Mo_orders_125 (by decide) (fr_pc (pc' := 128) rfl ?_)
              refine fr_icmp_ge (tgt := 151) dd_Mo_orders_128 rfl (fun _ => ?_) (fun _ => ?_)
              · refine fr_wk [true, true, true, true, false] ?_
                exact fr_ret rfl
              · refine fr_pc (pc' := 131) rfl ?_
                refine fp_aload_n (i := 0) (r := p0) dd_Mo_orders_131 rfl rfl (fr_pc (pc' := 132) rfl ?_)
                refine fr_gR cl_11 38 (by decide) rfl sw_1110 dd_Mo_orders_132 (fun x26 => fr_pc (pc' := 135) rfl ?_)
                refine fp_iload (i := 4) (x := b24) dd_Mo_orders_135 rfl (fr_pc (pc' := 137) rfl ?_)
                refine fp_aload_n (i := 0) (r := p0) dd_Mo_orders_137 rfl rfl (fr_pc (pc' := 138) rfl ?_)
                refine fr_gR cl_11 39 (by decide) rfl sw_1111 dd_Mo_orders_138 (fun x27 => fr_pc (pc' := 141) rfl ?_)
                refine fp_iload (i := 4) (x := b24) dd_Mo_orders_141 rfl (fr_pc (pc' := 143) rfl ?_)
                refine fr_aI0 dd_Mo_orders_143 (fun x28 => fr_pc (pc' := 144) rfl ?_)
                refine fr_sI0 dd_Mo_orders_144 (fr_pc (pc' := 145) rfl ?_)
                refine fr_niinc (i := 4) (x := b24) (w := (1 : Int32)) dd_Mo_orders_145 rfl (by decide) (Nat.le_of_ble_eq_true rfl) (fun _ => c1_i rfl) (fun y29 => fr_to (pc' := 148) (env' := [some (sf_rv p0), some (.int x12), some (.int y17), some (.int b18), some (.int y29)]) (stk' := []) rfl rfl rfl ?_)
                refine fp_goto (tgt := 123) dd_Mo_orders_148 rfl ?_
                exact fr_ret rfl
            · refine fp_aload_n (i := 0) (r := p0) dd_Mo_orders_151 rfl rfl (fr_pc (pc' := 152) rfl ?_)
              refine fp_iload_n (i := 1) (x := x12) dd_Mo_orders_152 rfl rfl (fr_pc (pc' := 153) rfl ?_)
              refine fr_pI cl_11 40 (by decide) rfl sw_1112 rfl ⟨rfl, rfl⟩ dd_Mo_orders_153 (fr_pc (pc' := 156) rfl ?_)
              refine fp_aload_n (i := 0) (r := p0) dd_Mo_orders_156 rfl rfl (fr_pc (pc' := 157) rfl ?_)
              refine fp_iload_n (i := 3) (x := b18) dd_Mo_orders_157 rfl rfl (fr_pc (pc' := 158) rfl ?_)
              refine fr_pI cl_11 43 (by decide) rfl sw_1115 rfl ⟨rfl, rfl⟩ dd_Mo_orders_158 (fr_pc (pc' := 161) rfl ?_)
              refine fp_aload_n (i := 0) (r := p0) dd_Mo_orders_161 rfl rfl (fr_pc (pc' := 162) rfl ?_)
              refine fp_bipush (v := (-3 : Int32)) dd_Mo_orders_162 (by decide) (fr_pc (pc' := 164) rfl ?_)
              refine fr_callV (stk := []) (As := [.int (-3 : Int32)]) cl_11 (ok_Mo_refuses p0 (-3 : Int32)) mt_Mo_refuses rfl rfl sw_1240 sw_1242 sp_27 (by decide) (Nat.le_of_ble_eq_true rfl) dd_Mo_orders_164 (fun x31 => fr_to (pc' := 167) (env' := [some (sf_rv p0), some (.int x12), some (.int y17), some (.int b18), none]) (stk' := [.int x31]) rfl rfl rfl ?_)
              exact fr_iret (v := x31) rfl rfl dd_Mo_orders_167
          · refine fr_pc (pc' := 112) rfl ?_
            refine fp_goto (tgt := 168) dd_Mo_orders_112 rfl ?_
            refine fr_niinc (i := 3) (x := b18) (w := (1 : Int32)) dd_Mo_orders_168 rfl (by decide) (Nat.le_of_ble_eq_true rfl) (fun _ => c1_i rfl) (fun y32 => fr_to (pc' := 171) (env' := [some (sf_rv p0), some (.int x12), some (.int y17), some (.int y32), none]) (stk' := []) rfl rfl rfl ?_)
            refine fp_goto (tgt := 96) dd_Mo_orders_171 rfl ?_
            exact fr_ret rfl
      · refine fp_aload_n (i := 0) (r := p0) dd_Mo_orders_174 rfl rfl (fr_pc (pc' := 175) rfl ?_)
        refine fp_aload_n (i := 0) (r := p0) dd_Mo_orders_175 rfl rfl (fr_pc (pc' := 176) rfl ?_)
        refine fr_gI cl_11 27 (by decide) rfl sw_1099 dd_Mo_orders_176 (fun x34 => fr_pc (pc' := 179) rfl ?_)
        refine fr_callV (stk := []) (As := [.int x34]) cl_11 (ok_Mo_good p0 x34) mt_Mo_good rfl rfl sw_1244 sw_1246 sp_28 (by decide) (Nat.le_of_ble_eq_true rfl) dd_Mo_orders_179 (fun x35 => fr_to (pc' := 182) (env' := [some (sf_rv p0), some (.int x12), some (.int y17), none, none]) (stk' := [.int x35]) rfl rfl rfl ?_)
        exact fr_iret (v := x35) rfl rfl dd_Mo_orders_182
theorem mt_Mo_draws : sf_Mt ({ cls := "SplitFaresModel", name := "draws", desc := "(I)I" } : Jvm.MethodName) prog_13_method_138_code 2 (some .int) 1 := ⟨sw_1780, sw_12, ⟨by decide, by decide, by decide +kernel⟩, by decide⟩
theorem dd_Mo_draws_0 : decode prog_13_method_138_code 0 = .ok (.aload_n 0, 1) := by decide +kernel
theorem dd_Mo_draws_1 : decode prog_13_method_138_code 1 = .ok (.ldc2_w 502, 3) := by decide +kernel
theorem dd_Mo_draws_4 : decode prog_13_method_138_code 4 = .ok (.aload_n 0, 1) := by decide +kernel
theorem dd_Mo_draws_5 : decode prog_13_method_138_code 5 = .ok (.getfield 504, 3) := by decide +kernel
theorem dd_Mo_draws_8 : decode prog_13_method_138_code 8 = .ok (.i2l, 1) := by decide +kernel
theorem dd_Mo_draws_9 : decode prog_13_method_138_code 9 = .ok (.lmul, 1) := by decide +kernel
theorem dd_Mo_draws_10 : decode prog_13_method_138_code 10 = .ok (.ldc2_w 507, 3) := by decide +kernel
theorem dd_Mo_draws_13 : decode prog_13_method_138_code 13 = .ok (.ladd, 1) := by decide +kernel
theorem dd_Mo_draws_14 : decode prog_13_method_138_code 14 = .ok (.ldc2_w 509, 3) := by decide +kernel
theorem dd_Mo_draws_17 : decode prog_13_method_138_code 17 = .ok (.lrem, 1) := by decide +kernel
theorem dd_Mo_draws_18 : decode prog_13_method_138_code 18 = .ok (.l2i, 1) := by decide +kernel
theorem dd_Mo_draws_19 : decode prog_13_method_138_code 19 = .ok (.putfield 504, 3) := by decide +kernel
theorem dd_Mo_draws_22 : decode prog_13_method_138_code 22 = .ok (.aload_n 0, 1) := by decide +kernel
theorem dd_Mo_draws_23 : decode prog_13_method_138_code 23 = .ok (.getfield 504, 3) := by decide +kernel
theorem dd_Mo_draws_26 : decode prog_13_method_138_code 26 = .ok (.iload_n 1, 1) := by decide +kernel
theorem dd_Mo_draws_27 : decode prog_13_method_138_code 27 = .ok (.irem, 1) := by decide +kernel
theorem dd_Mo_draws_28 : decode prog_13_method_138_code 28 = .ok (.ireturn, 1) := by decide +kernel
def jx_Mo_draws (p0 : Option Nat) (p1 : Int32) : sf_M (Int32) :=
  sf_bnd (sf_gI 11 52 p0) fun x1 =>
  sf_bnd (sf_pI 11 52 p0 (((((1103 : Int64) * x1.toInt64) + (12345 : Int64)) - (((1103 : Int64) * x1.toInt64) + (12345 : Int64)) / (1000003 : Int64) * (1000003 : Int64)).toInt32)) fun _ =>
  sf_bnd (sf_gI 11 52 p0) fun x2 =>
  sf_bnd (sf_rmI x2 p1) fun x3 =>
  sf_ret x3
set_option maxRecDepth 20000 in
set_option maxHeartbeats 4000000 in
theorem ok_Mo_draws (p0 : Option Nat) (p1 : Int32) : sf_Ok ({ cls := "SplitFaresModel", name := "draws", desc := "(I)I" } : Jvm.MethodName) prog_13_method_138_code 2 (some .int) 0 [sf_rv p0, .int p1] (jx_Mo_draws p0 p1) (fun r => some (.int r)) := by
  refine sf_Ok.of (env := [some (sf_rv p0), some (.int p1)]) (plainFor_of_name (by decide)) [false, false] (fun G => ⟨pk_r, pk_i, trivial⟩) (Nat.le_of_ble_eq_true rfl) rfl (fun X => ?_)
  unfold jx_Mo_draws
  refine fp_aload_n (i := 0) (r := p0) dd_Mo_draws_0 rfl rfl (fr_pc (pc' := 1) rfl ?_)
  refine fp_ldc2 (v := (1103 : Int64)) dd_Mo_draws_1 sw_1781 (fr_pc (pc' := 4) rfl ?_)
  refine fp_aload_n (i := 0) (r := p0) dd_Mo_draws_4 rfl rfl (fr_pc (pc' := 5) rfl ?_)
  refine fr_gI cl_11 52 (by decide) rfl sw_1124 dd_Mo_draws_5 (fun x1 => fr_pc (pc' := 8) rfl ?_)
  refine fp_i2l dd_Mo_draws_8 (fr_pc (pc' := 9) rfl ?_)
  refine fp_lmul dd_Mo_draws_9 (fr_pc (pc' := 10) rfl ?_)
  refine fp_ldc2 (v := (12345 : Int64)) dd_Mo_draws_10 sw_1782 (fr_pc (pc' := 13) rfl ?_)
  refine fp_ladd dd_Mo_draws_13 (fr_pc (pc' := 14) rfl ?_)
  refine fp_ldc2 (v := (1000003 : Int64)) dd_Mo_draws_14 sw_1783 (fr_pc (pc' := 17) rfl ?_)
  refine fp_lrem0 dd_Mo_draws_17 (by decide) (fr_pc (pc' := 18) rfl ?_)
  refine fp_l2i dd_Mo_draws_18 (fr_pc (pc' := 19) rfl ?_)
  refine fr_pI cl_11 52 (by decide) rfl sw_1124 rfl ⟨rfl, rfl⟩ dd_Mo_draws_19 (fr_pc (pc' := 22) rfl ?_)
  refine fp_aload_n (i := 0) (r := p0) dd_Mo_draws_22 rfl rfl (fr_pc (pc' := 23) rfl ?_)
  refine fr_gI cl_11 52 (by decide) rfl sw_1124 dd_Mo_draws_23 (fun x2 => fr_pc (pc' := 26) rfl ?_)
  refine fp_iload_n (i := 1) (x := p1) dd_Mo_draws_26 rfl rfl (fr_pc (pc' := 27) rfl ?_)
  refine fr_rmI dd_Mo_draws_27 (fun x3 => fr_pc (pc' := 28) rfl ?_)
  exact fr_iret (v := x3) rfl rfl dd_Mo_draws_28
theorem mt_Mo_drawnAct : sf_Mt ({ cls := "SplitFaresModel", name := "drawnAct", desc := "()I" } : Jvm.MethodName) prog_13_method_139_code 4 (some .int) 0 := ⟨sw_1776, sw_12, ⟨by decide, by decide, by decide +kernel⟩, by decide⟩
theorem dd_Mo_drawnAct_0 : decode prog_13_method_139_code 0 = .ok (.aload_n 0, 1) := by decide +kernel
theorem dd_Mo_drawnAct_1 : decode prog_13_method_139_code 1 = .ok (.aload_n 0, 1) := by decide +kernel
theorem dd_Mo_drawnAct_2 : decode prog_13_method_139_code 2 = .ok (.getfield 32, 3) := by decide +kernel
theorem dd_Mo_drawnAct_5 : decode prog_13_method_139_code 5 = .ok (.sipush 227, 3) := by decide +kernel
theorem dd_Mo_drawnAct_8 : decode prog_13_method_139_code 8 = .ok (.iaload, 1) := by decide +kernel
theorem dd_Mo_drawnAct_9 : decode prog_13_method_139_code 9 = .ok (.invokevirtual 511, 3) := by decide +kernel
theorem dd_Mo_drawnAct_12 : decode prog_13_method_139_code 12 = .ok (.istore_n 1, 1) := by decide +kernel
theorem dd_Mo_drawnAct_13 : decode prog_13_method_139_code 13 = .ok (.aload_n 0, 1) := by decide +kernel
theorem dd_Mo_drawnAct_14 : decode prog_13_method_139_code 14 = .ok (.bipush 8, 2) := by decide +kernel
theorem dd_Mo_drawnAct_16 : decode prog_13_method_139_code 16 = .ok (.invokevirtual 511, 3) := by decide +kernel
theorem dd_Mo_drawnAct_19 : decode prog_13_method_139_code 19 = .ok (.istore_n 2, 1) := by decide +kernel
theorem dd_Mo_drawnAct_20 : decode prog_13_method_139_code 20 = .ok (.aload_n 0, 1) := by decide +kernel
theorem dd_Mo_drawnAct_21 : decode prog_13_method_139_code 21 = .ok (.iconst 4, 1) := by decide +kernel
theorem dd_Mo_drawnAct_22 : decode prog_13_method_139_code 22 = .ok (.invokevirtual 511, 3) := by decide +kernel
theorem dd_Mo_drawnAct_25 : decode prog_13_method_139_code 25 = .ok (.istore_n 3, 1) := by decide +kernel
theorem dd_Mo_drawnAct_26 : decode prog_13_method_139_code 26 = .ok (.iload_n 3, 1) := by decide +kernel
theorem dd_Mo_drawnAct_27 : decode prog_13_method_139_code 27 = .ok (.iconst 2, 1) := by decide +kernel
theorem dd_Mo_drawnAct_28 : decode prog_13_method_139_code 28 = .ok (.if_icmp .ge 34, 3) := by decide +kernel
theorem dd_Mo_drawnAct_31 : decode prog_13_method_139_code 31 = .ok (.aload_n 0, 1) := by decide +kernel
theorem dd_Mo_drawnAct_32 : decode prog_13_method_139_code 32 = .ok (.iload_n 3, 1) := by decide +kernel
theorem dd_Mo_drawnAct_33 : decode prog_13_method_139_code 33 = .ok (.aload_n 0, 1) := by decide +kernel
theorem dd_Mo_drawnAct_34 : decode prog_13_method_139_code 34 = .ok (.getfield 32, 3) := by decide +kernel
theorem dd_Mo_drawnAct_37 : decode prog_13_method_139_code 37 = .ok (.sipush 192, 3) := by decide +kernel
theorem dd_Mo_drawnAct_40 : decode prog_13_method_139_code 40 = .ok (.iaload, 1) := by decide +kernel
theorem dd_Mo_drawnAct_41 : decode prog_13_method_139_code 41 = .ok (.iload_n 2, 1) := by decide +kernel
theorem dd_Mo_drawnAct_42 : decode prog_13_method_139_code 42 = .ok (.invokevirtual 413, 3) := by decide +kernel
theorem dd_Mo_drawnAct_45 : decode prog_13_method_139_code 45 = .ok (.ifCond .eq 17, 3) := by decide +kernel
theorem dd_Mo_drawnAct_48 : decode prog_13_method_139_code 48 = .ok (.aload_n 0, 1) := by decide +kernel
theorem dd_Mo_drawnAct_49 : decode prog_13_method_139_code 49 = .ok (.iload_n 3, 1) := by decide +kernel
theorem dd_Mo_drawnAct_50 : decode prog_13_method_139_code 50 = .ok (.aload_n 0, 1) := by decide +kernel
theorem dd_Mo_drawnAct_51 : decode prog_13_method_139_code 51 = .ok (.getfield 32, 3) := by decide +kernel
theorem dd_Mo_drawnAct_54 : decode prog_13_method_139_code 54 = .ok (.sipush 192, 3) := by decide +kernel
theorem dd_Mo_drawnAct_57 : decode prog_13_method_139_code 57 = .ok (.iaload, 1) := by decide +kernel
theorem dd_Mo_drawnAct_58 : decode prog_13_method_139_code 58 = .ok (.iload_n 2, 1) := by decide +kernel
theorem dd_Mo_drawnAct_59 : decode prog_13_method_139_code 59 = .ok (.invokevirtual 419, 3) := by decide +kernel
theorem dd_Mo_drawnAct_62 : decode prog_13_method_139_code 62 = .ok (.iload_n 3, 1) := by decide +kernel
theorem dd_Mo_drawnAct_63 : decode prog_13_method_139_code 63 = .ok (.iconst 2, 1) := by decide +kernel
theorem dd_Mo_drawnAct_64 : decode prog_13_method_139_code 64 = .ok (.if_icmp .ne 18, 3) := by decide +kernel
theorem dd_Mo_drawnAct_67 : decode prog_13_method_139_code 67 = .ok (.aload_n 0, 1) := by decide +kernel
theorem dd_Mo_drawnAct_68 : decode prog_13_method_139_code 68 = .ok (.iload_n 1, 1) := by decide +kernel
theorem dd_Mo_drawnAct_69 : decode prog_13_method_139_code 69 = .ok (.iload_n 2, 1) := by decide +kernel
theorem dd_Mo_drawnAct_70 : decode prog_13_method_139_code 70 = .ok (.invokevirtual 422, 3) := by decide +kernel
theorem dd_Mo_drawnAct_73 : decode prog_13_method_139_code 73 = .ok (.ifCond .eq 9, 3) := by decide +kernel
theorem dd_Mo_drawnAct_76 : decode prog_13_method_139_code 76 = .ok (.aload_n 0, 1) := by decide +kernel
theorem dd_Mo_drawnAct_77 : decode prog_13_method_139_code 77 = .ok (.iload_n 1, 1) := by decide +kernel
theorem dd_Mo_drawnAct_78 : decode prog_13_method_139_code 78 = .ok (.invokevirtual 425, 3) := by decide +kernel
theorem dd_Mo_drawnAct_81 : decode prog_13_method_139_code 81 = .ok (.ireturn, 1) := by decide +kernel
theorem dd_Mo_drawnAct_82 : decode prog_13_method_139_code 82 = .ok (.iload_n 3, 1) := by decide +kernel
theorem dd_Mo_drawnAct_83 : decode prog_13_method_139_code 83 = .ok (.iconst 3, 1) := by decide +kernel
theorem dd_Mo_drawnAct_84 : decode prog_13_method_139_code 84 = .ok (.if_icmp .ne 8, 3) := by decide +kernel
theorem dd_Mo_drawnAct_87 : decode prog_13_method_139_code 87 = .ok (.aload_n 0, 1) := by decide +kernel
theorem dd_Mo_drawnAct_88 : decode prog_13_method_139_code 88 = .ok (.invokevirtual 429, 3) := by decide +kernel
theorem dd_Mo_drawnAct_91 : decode prog_13_method_139_code 91 = .ok (.pop, 1) := by decide +kernel
theorem dd_Mo_drawnAct_92 : decode prog_13_method_139_code 92 = .ok (.iconst 0, 1) := by decide +kernel
theorem dd_Mo_drawnAct_93 : decode prog_13_method_139_code 93 = .ok (.ireturn, 1) := by decide +kernel
def jx_Mo_drawnAct (p0 : Option Nat) : sf_M (Int32) :=
  sf_bnd (sf_gR 11 2 p0) fun x1 =>
  sf_bnd (sf_aI 0 x1 (227 : Int32)) fun x2 =>
  sf_bnd (sf_rc 11 p0 (jx_Mo_draws p0 x2)) fun x3 =>
  sf_bnd (sf_rc 11 p0 (jx_Mo_draws p0 (8 : Int32))) fun x4 =>
  sf_bnd (sf_rc 11 p0 (jx_Mo_draws p0 (4 : Int32))) fun x5 =>
  sf_bnd (α := (Unit)) (
  if (2 : Int32) ≤ x5 then (
  sf_ret ()
  ) else (
  sf_bnd (sf_gR 11 2 p0) fun x7 =>
  sf_bnd (sf_aI 0 x7 (192 : Int32)) fun x8 =>
  sf_bnd (sf_rc 11 p0 (jx_Mo_canBuy p0 x5 x8 x4)) fun x9 =>
  if x9 = 0 then (
  sf_ret ()
  ) else (
  sf_bnd (sf_gR 11 2 p0) fun x11 =>
  sf_bnd (sf_aI 0 x11 (192 : Int32)) fun x12 =>
  sf_bnd (sf_rc 11 p0 (jx_Mo_buys p0 x5 x12 x4)) fun _ =>
  sf_ret ()
  )
  )
  ) (fun v14 =>
  sf_or (α := Int32) (β := (Unit)) (
  if x5 = (2 : Int32) then (
  sf_bnd (sf_rc 11 p0 (jx_Mo_canRide p0 x3 x4)) fun x16 =>
  if x16 = 0 then (
  sf_ret (.inr ())
  ) else (
  sf_bnd (sf_rc 11 p0 (jx_Mo_rides p0 x3)) fun x18 =>
  sf_ret (.inl x18)
  )
  ) else (
  sf_ret (.inr ())
  )
  ) (fun v19 =>
  if x5 = (3 : Int32) then (
  sf_bnd (sf_rc 11 p0 (jx_Mo_dayPasses p0)) fun x21 =>
  sf_ret (0 : Int32)
  ) else (
  sf_ret (0 : Int32)
  )
  )
  )
set_option maxRecDepth 20000 in
set_option maxHeartbeats 4000000 in
theorem ok_Mo_drawnAct (p0 : Option Nat) : sf_Ok ({ cls := "SplitFaresModel", name := "drawnAct", desc := "()I" } : Jvm.MethodName) prog_13_method_139_code 4 (some .int) 211 [sf_rv p0] (jx_Mo_drawnAct p0) (fun r => some (.int r)) := by
  refine sf_Ok.of (env := [some (sf_rv p0), none, none, none]) (plainFor_of_name (by decide)) [false] (fun G => ⟨pk_r, trivial⟩) (Nat.le_of_ble_eq_true rfl) rfl (fun X => ?_)
  unfold jx_Mo_drawnAct
  refine fp_aload_n (i := 0) (r := p0) dd_Mo_drawnAct_0 rfl rfl (fr_pc (pc' := 1) rfl ?_)
  refine fp_aload_n (i := 0) (r := p0) dd_Mo_drawnAct_1 rfl rfl (fr_pc (pc' := 2) rfl ?_)
  refine fr_gR cl_11 2 (by decide) rfl sw_1074 dd_Mo_drawnAct_2 (fun x1 => fr_pc (pc' := 5) rfl ?_)
  refine fp_sipush (v := (227 : Int32)) dd_Mo_drawnAct_5 (by decide) (fr_pc (pc' := 8) rfl ?_)
  refine fr_aI0 dd_Mo_drawnAct_8 (fun x2 => fr_pc (pc' := 9) rfl ?_)
  refine fr_callV (stk := []) (As := [.int x2]) cl_11 (ok_Mo_draws p0 x2) mt_Mo_draws rfl rfl sw_1777 sw_1779 sp_107 (by decide) (Nat.le_of_ble_eq_true rfl) dd_Mo_drawnAct_9 (fun x3 => fr_to (pc' := 12) (env' := [some (sf_rv p0), none, none, none]) (stk' := [.int x3]) rfl rfl rfl ?_)
  refine fp_istore_n (i := 1) dd_Mo_drawnAct_12 rfl (Nat.le_of_ble_eq_true rfl) (fun _ => c1_r rfl) (fr_to (pc' := 13) (env' := [some (sf_rv p0), some (.int x3), none, none]) (stk' := []) rfl rfl rfl ?_)
  refine fp_aload_n (i := 0) (r := p0) dd_Mo_drawnAct_13 rfl rfl (fr_pc (pc' := 14) rfl ?_)
  refine fp_bipush (v := (8 : Int32)) dd_Mo_drawnAct_14 (by decide) (fr_pc (pc' := 16) rfl ?_)
  refine fr_callV (stk := []) (As := [.int (8 : Int32)]) cl_11 (ok_Mo_draws p0 (8 : Int32)) mt_Mo_draws rfl rfl sw_1777 sw_1779 sp_107 (by decide) (Nat.le_of_ble_eq_true rfl) dd_Mo_drawnAct_16 (fun x4 => fr_to (pc' := 19) (env' := [some (sf_rv p0), some (.int x3), none, none]) (stk' := [.int x4]) rfl rfl rfl ?_)
  refine fp_istore_n (i := 2) dd_Mo_drawnAct_19 rfl (Nat.le_of_ble_eq_true rfl) (fun _ => c1_i rfl) (fr_to (pc' := 20) (env' := [some (sf_rv p0), some (.int x3), some (.int x4), none]) (stk' := []) rfl rfl rfl ?_)
  refine fp_aload_n (i := 0) (r := p0) dd_Mo_drawnAct_20 rfl rfl (fr_pc (pc' := 21) rfl ?_)
  refine fp_iconst (v := (4 : Int32)) dd_Mo_drawnAct_21 (by decide) (fr_pc (pc' := 22) rfl ?_)
  refine fr_callV (stk := []) (As := [.int (4 : Int32)]) cl_11 (ok_Mo_draws p0 (4 : Int32)) mt_Mo_draws rfl rfl sw_1777 sw_1779 sp_107 (by decide) (Nat.le_of_ble_eq_true rfl) dd_Mo_drawnAct_22 (fun x5 => fr_to (pc' := 25) (env' := [some (sf_rv p0), some (.int x3), some (.int x4), none]) (stk' := [.int x5]) rfl rfl rfl ?_)
  refine fp_istore_n (i := 3) dd_Mo_drawnAct_25 rfl (Nat.le_of_ble_eq_true rfl) (fun _ => c1_i rfl) (fr_to (pc' := 26) (env' := [some (sf_rv p0), some (.int x3), some (.int x4), some (.int x5)]) (stk' := []) rfl rfl rfl ?_)
  refine fp_iload_n (i := 3) (x := x5) dd_Mo_drawnAct_26 rfl rfl (fr_pc (pc' := 27) rfl ?_)
  refine fp_iconst (v := (2 : Int32)) dd_Mo_drawnAct_27 (by decide) (fr_pc (pc' := 28) rfl ?_)
  refine fr_bnd (l1 := (fun (v14 : (Unit)) => sf_p 62 [some (sf_rv p0), some (.int x3), some (.int x4), some (.int x5)] [])) ?_ (fun v14 => ?_)
  · refine fr_icmp_ge (tgt := 62) dd_Mo_drawnAct_28 rfl (fun _ => ?_) (fun _ => ?_)
    · exact fr_ret rfl
    · refine fr_pc (pc' := 31) rfl ?_
      refine fp_aload_n (i := 0) (r := p0) dd_Mo_drawnAct_31 rfl rfl (fr_pc (pc' := 32) rfl ?_)
      refine fp_iload_n (i := 3) (x := x5) dd_Mo_drawnAct_32 rfl rfl (fr_pc (pc' := 33) rfl ?_)
      refine fp_aload_n (i := 0) (r := p0) dd_Mo_drawnAct_33 rfl rfl (fr_pc (pc' := 34) rfl ?_)
      refine fr_gR cl_11 2 (by decide) rfl sw_1074 dd_Mo_drawnAct_34 (fun x7 => fr_pc (pc' := 37) rfl ?_)
      refine fp_sipush (v := (192 : Int32)) dd_Mo_drawnAct_37 (by decide) (fr_pc (pc' := 40) rfl ?_)
      refine fr_aI0 dd_Mo_drawnAct_40 (fun x8 => fr_pc (pc' := 41) rfl ?_)
      refine fp_iload_n (i := 2) (x := x4) dd_Mo_drawnAct_41 rfl rfl (fr_pc (pc' := 42) rfl ?_)
      refine fr_callV (stk := []) (As := [.int x5, .int x8, .int x4]) cl_11 (ok_Mo_canBuy p0 x5 x8 x4) mt_Mo_canBuy rfl rfl sw_1624 sw_1626 sp_84 (by decide) (Nat.le_of_ble_eq_true rfl) dd_Mo_drawnAct_42 (fun x9 => fr_to (pc' := 45) (env' := [some (sf_rv p0), some (.int x3), some (.int x4), some (.int x5)]) (stk' := [.int x9]) rfl rfl rfl ?_)
      refine fr_if_eq (tgt := 62) dd_Mo_drawnAct_45 rfl (fun _ => ?_) (fun _ => ?_)
      · exact fr_ret rfl
      · refine fr_pc (pc' := 48) rfl ?_
        refine fp_aload_n (i := 0) (r := p0) dd_Mo_drawnAct_48 rfl rfl (fr_pc (pc' := 49) rfl ?_)
        refine fp_iload_n (i := 3) (x := x5) dd_Mo_drawnAct_49 rfl rfl (fr_pc (pc' := 50) rfl ?_)
        refine fp_aload_n (i := 0) (r := p0) dd_Mo_drawnAct_50 rfl rfl (fr_pc (pc' := 51) rfl ?_)
        refine fr_gR cl_11 2 (by decide) rfl sw_1074 dd_Mo_drawnAct_51 (fun x11 => fr_pc (pc' := 54) rfl ?_)
        refine fp_sipush (v := (192 : Int32)) dd_Mo_drawnAct_54 (by decide) (fr_pc (pc' := 57) rfl ?_)
        refine fr_aI0 dd_Mo_drawnAct_57 (fun x12 => fr_pc (pc' := 58) rfl ?_)
        refine fp_iload_n (i := 2) (x := x4) dd_Mo_drawnAct_58 rfl rfl (fr_pc (pc' := 59) rfl ?_)
        refine fr_callV (stk := []) (As := [.int x5, .int x12, .int x4]) cl_11 (ok_Mo_buys p0 x5 x12 x4) mt_Mo_buys rfl rfl sw_1632 sw_1634 sp_86 (by decide) (Nat.le_of_ble_eq_true rfl) dd_Mo_drawnAct_59 (fun u13 => fr_to (pc' := 62) (env' := [some (sf_rv p0), some (.int x3), some (.int x4), some (.int x5)]) (stk' := []) rfl rfl rfl ?_)
        exact fr_ret rfl
  · refine fp_iload_n (i := 3) (x := x5) dd_Mo_drawnAct_62 rfl rfl (fr_pc (pc' := 63) rfl ?_)
    refine fp_iconst (v := (2 : Int32)) dd_Mo_drawnAct_63 (by decide) (fr_pc (pc' := 64) rfl ?_)
    refine fr_or (l1 := (fun (v19 : (Unit)) => sf_p 82 [some (sf_rv p0), some (.int x3), some (.int x4), some (.int x5)] [])) ?_ (fun v19 => ?_)
    · refine fr_icmp_ne (tgt := 82) dd_Mo_drawnAct_64 rfl (fun _ => ?_) (fun _ => ?_)
      · refine fr_pc (pc' := 67) rfl ?_
        refine fp_aload_n (i := 0) (r := p0) dd_Mo_drawnAct_67 rfl rfl (fr_pc (pc' := 68) rfl ?_)
        refine fp_iload_n (i := 1) (x := x3) dd_Mo_drawnAct_68 rfl rfl (fr_pc (pc' := 69) rfl ?_)
        refine fp_iload_n (i := 2) (x := x4) dd_Mo_drawnAct_69 rfl rfl (fr_pc (pc' := 70) rfl ?_)
        refine fr_callV (stk := []) (As := [.int x3, .int x4]) cl_11 (ok_Mo_canRide p0 x3 x4) mt_Mo_canRide rfl rfl sw_1648 sw_1650 sp_89 (by decide) (Nat.le_of_ble_eq_true rfl) dd_Mo_drawnAct_70 (fun x16 => fr_to (pc' := 73) (env' := [some (sf_rv p0), some (.int x3), some (.int x4), some (.int x5)]) (stk' := [.int x16]) rfl rfl rfl ?_)
        refine fr_if_eq (tgt := 82) dd_Mo_drawnAct_73 rfl (fun _ => ?_) (fun _ => ?_)
        · exact fr_ret rfl
        · refine fr_pc (pc' := 76) rfl ?_
          refine fp_aload_n (i := 0) (r := p0) dd_Mo_drawnAct_76 rfl rfl (fr_pc (pc' := 77) rfl ?_)
          refine fp_iload_n (i := 1) (x := x3) dd_Mo_drawnAct_77 rfl rfl (fr_pc (pc' := 78) rfl ?_)
          refine fr_callV (stk := []) (As := [.int x3]) cl_11 (ok_Mo_rides p0 x3) mt_Mo_rides rfl rfl sw_1664 sw_1666 sp_93 (by decide) (Nat.le_of_ble_eq_true rfl) dd_Mo_drawnAct_78 (fun x18 => fr_to (pc' := 81) (env' := [some (sf_rv p0), some (.int x3), some (.int x4), some (.int x5)]) (stk' := [.int x18]) rfl rfl rfl ?_)
          exact fr_iret (v := x18) rfl rfl dd_Mo_drawnAct_81
      · exact fr_ret rfl
    · refine fp_iload_n (i := 3) (x := x5) dd_Mo_drawnAct_82 rfl rfl (fr_pc (pc' := 83) rfl ?_)
      refine fp_iconst (v := (3 : Int32)) dd_Mo_drawnAct_83 (by decide) (fr_pc (pc' := 84) rfl ?_)
      refine fr_icmp_ne (tgt := 92) dd_Mo_drawnAct_84 rfl (fun _ => ?_) (fun _ => ?_)
      · refine fr_pc (pc' := 87) rfl ?_
        refine fp_aload_n (i := 0) (r := p0) dd_Mo_drawnAct_87 rfl rfl (fr_pc (pc' := 88) rfl ?_)
        refine fr_callV (stk := []) (As := []) cl_11 (ok_Mo_dayPasses p0) mt_Mo_dayPasses rfl rfl sw_1689 sw_1691 sp_97 (by decide) (Nat.le_of_ble_eq_true rfl) dd_Mo_drawnAct_88 (fun x21 => fr_to (pc' := 91) (env' := [some (sf_rv p0), some (.int x3), some (.int x4), some (.int x5)]) (stk' := [.int x21]) rfl rfl rfl ?_)
        refine fp_pop_i dd_Mo_drawnAct_91 (fr_pc (pc' := 92) rfl ?_)
        refine fp_iconst (v := (0 : Int32)) dd_Mo_drawnAct_92 (by decide) (fr_pc (pc' := 93) rfl ?_)
        exact fr_iret (v := (0 : Int32)) rfl rfl dd_Mo_drawnAct_93
      · refine fp_iconst (v := (0 : Int32)) dd_Mo_drawnAct_92 (by decide) (fr_pc (pc' := 93) rfl ?_)
        exact fr_iret (v := (0 : Int32)) rfl rfl dd_Mo_drawnAct_93
theorem mt_Mo_months : sf_Mt ({ cls := "SplitFaresModel", name := "months", desc := "(II)I" } : Jvm.MethodName) prog_13_method_140_code 5 (some .int) 2 := ⟨sw_1772, sw_12, ⟨by decide, by decide, by decide +kernel⟩, by decide⟩
theorem dd_Mo_months_0 : decode prog_13_method_140_code 0 = .ok (.iload_n 1, 1) := by decide +kernel
theorem dd_Mo_months_1 : decode prog_13_method_140_code 1 = .ok (.iconst 0, 1) := by decide +kernel
theorem dd_Mo_months_2 : decode prog_13_method_140_code 2 = .ok (.ldc 174, 2) := by decide +kernel
theorem dd_Mo_months_4 : decode prog_13_method_140_code 4 = .ok (.invokestatic 18, 3) := by decide +kernel
theorem dd_Mo_months_7 : decode prog_13_method_140_code 7 = .ok (.ifCond .eq 13, 3) := by decide +kernel
theorem dd_Mo_months_10 : decode prog_13_method_140_code 10 = .ok (.iload_n 2, 1) := by decide +kernel
theorem dd_Mo_months_11 : decode prog_13_method_140_code 11 = .ok (.iconst 1, 1) := by decide +kernel
theorem dd_Mo_months_12 : decode prog_13_method_140_code 12 = .ok (.bipush 60, 2) := by decide +kernel
theorem dd_Mo_months_14 : decode prog_13_method_140_code 14 = .ok (.invokestatic 18, 3) := by decide +kernel
theorem dd_Mo_months_17 : decode prog_13_method_140_code 17 = .ok (.ifCond .ne 9, 3) := by decide +kernel
theorem dd_Mo_months_26 : decode prog_13_method_140_code 26 = .ok (.aload_n 0, 1) := by decide +kernel
theorem dd_Mo_months_27 : decode prog_13_method_140_code 27 = .ok (.getfield 32, 3) := by decide +kernel
theorem dd_Mo_months_30 : decode prog_13_method_140_code 30 = .ok (.sipush 227, 3) := by decide +kernel
theorem dd_Mo_months_33 : decode prog_13_method_140_code 33 = .ok (.iaload, 1) := by decide +kernel
theorem dd_Mo_months_34 : decode prog_13_method_140_code 34 = .ok (.ifCond .ne 10, 3) := by decide +kernel
theorem dd_Mo_months_37 : decode prog_13_method_140_code 37 = .ok (.aload_n 0, 1) := by decide +kernel
theorem dd_Mo_months_38 : decode prog_13_method_140_code 38 = .ok (.bipush (-3), 2) := by decide +kernel
theorem dd_Mo_months_40 : decode prog_13_method_140_code 40 = .ok (.invokevirtual 116, 3) := by decide +kernel
theorem dd_Mo_months_43 : decode prog_13_method_140_code 43 = .ok (.ireturn, 1) := by decide +kernel
theorem dd_Mo_months_44 : decode prog_13_method_140_code 44 = .ok (.aload_n 0, 1) := by decide +kernel
theorem dd_Mo_months_45 : decode prog_13_method_140_code 45 = .ok (.iload_n 1, 1) := by decide +kernel
theorem dd_Mo_months_46 : decode prog_13_method_140_code 46 = .ok (.putfield 504, 3) := by decide +kernel
theorem dd_Mo_months_49 : decode prog_13_method_140_code 49 = .ok (.aload_n 0, 1) := by decide +kernel
theorem dd_Mo_months_50 : decode prog_13_method_140_code 50 = .ok (.iconst 1, 1) := by decide +kernel
theorem dd_Mo_months_51 : decode prog_13_method_140_code 51 = .ok (.putfield 514, 3) := by decide +kernel
theorem dd_Mo_months_54 : decode prog_13_method_140_code 54 = .ok (.aload_n 0, 1) := by decide +kernel
theorem dd_Mo_months_55 : decode prog_13_method_140_code 55 = .ok (.iconst 0, 1) := by decide +kernel
theorem dd_Mo_months_56 : decode prog_13_method_140_code 56 = .ok (.invokevirtual 465, 3) := by decide +kernel
theorem dd_Mo_months_59 : decode prog_13_method_140_code 59 = .ok (.iconst 0, 1) := by decide +kernel
theorem dd_Mo_months_60 : decode prog_13_method_140_code 60 = .ok (.istore_n 3, 1) := by decide +kernel
theorem dd_Mo_months_61 : decode prog_13_method_140_code 61 = .ok (.iconst 0, 1) := by decide +kernel
theorem dd_Mo_months_62 : decode prog_13_method_140_code 62 = .ok (.istore 4, 2) := by decide +kernel
theorem dd_Mo_months_64 : decode prog_13_method_140_code 64 = .ok (.iload 4, 2) := by decide +kernel
theorem dd_Mo_months_66 : decode prog_13_method_140_code 66 = .ok (.iload_n 2, 1) := by decide +kernel
theorem dd_Mo_months_67 : decode prog_13_method_140_code 67 = .ok (.if_icmp .ge 30, 3) := by decide +kernel
theorem dd_Mo_months_70 : decode prog_13_method_140_code 70 = .ok (.aload_n 0, 1) := by decide +kernel
theorem dd_Mo_months_71 : decode prog_13_method_140_code 71 = .ok (.getfield 32, 3) := by decide +kernel
theorem dd_Mo_months_74 : decode prog_13_method_140_code 74 = .ok (.sipush 194, 3) := by decide +kernel
theorem dd_Mo_months_77 : decode prog_13_method_140_code 77 = .ok (.iaload, 1) := by decide +kernel
theorem dd_Mo_months_78 : decode prog_13_method_140_code 78 = .ok (.sipush 999, 3) := by decide +kernel
theorem dd_Mo_months_81 : decode prog_13_method_140_code 81 = .ok (.if_icmp .ge 16, 3) := by decide +kernel
theorem dd_Mo_months_84 : decode prog_13_method_140_code 84 = .ok (.iload_n 3, 1) := by decide +kernel
theorem dd_Mo_months_85 : decode prog_13_method_140_code 85 = .ok (.aload_n 0, 1) := by decide +kernel
theorem dd_Mo_months_86 : decode prog_13_method_140_code 86 = .ok (.invokevirtual 517, 3) := by decide +kernel
theorem dd_Mo_months_89 : decode prog_13_method_140_code 89 = .ok (.iadd, 1) := by decide +kernel
theorem dd_Mo_months_90 : decode prog_13_method_140_code 90 = .ok (.istore_n 3, 1) := by decide +kernel
theorem dd_Mo_months_91 : decode prog_13_method_140_code 91 = .ok (.iinc 4 1, 3) := by decide +kernel
theorem dd_Mo_months_94 : decode prog_13_method_140_code 94 = .ok (.goto (-30), 3) := by decide +kernel
theorem dd_Mo_months_97 : decode prog_13_method_140_code 97 = .ok (.aload_n 0, 1) := by decide +kernel
theorem dd_Mo_months_98 : decode prog_13_method_140_code 98 = .ok (.getfield 113, 3) := by decide +kernel
theorem dd_Mo_months_101 : decode prog_13_method_140_code 101 = .ok (.iconst 0, 1) := by decide +kernel
theorem dd_Mo_months_102 : decode prog_13_method_140_code 102 = .ok (.aload_n 0, 1) := by decide +kernel
theorem dd_Mo_months_103 : decode prog_13_method_140_code 103 = .ok (.getfield 32, 3) := by decide +kernel
theorem dd_Mo_months_106 : decode prog_13_method_140_code 106 = .ok (.sipush 193, 3) := by decide +kernel
theorem dd_Mo_months_109 : decode prog_13_method_140_code 109 = .ok (.iaload, 1) := by decide +kernel
theorem dd_Mo_months_110 : decode prog_13_method_140_code 110 = .ok (.iastore, 1) := by decide +kernel
theorem dd_Mo_months_111 : decode prog_13_method_140_code 111 = .ok (.aload_n 0, 1) := by decide +kernel
theorem dd_Mo_months_112 : decode prog_13_method_140_code 112 = .ok (.getfield 113, 3) := by decide +kernel
theorem dd_Mo_months_115 : decode prog_13_method_140_code 115 = .ok (.iconst 1, 1) := by decide +kernel
theorem dd_Mo_months_116 : decode prog_13_method_140_code 116 = .ok (.aload_n 0, 1) := by decide +kernel
theorem dd_Mo_months_117 : decode prog_13_method_140_code 117 = .ok (.getfield 32, 3) := by decide +kernel
theorem dd_Mo_months_120 : decode prog_13_method_140_code 120 = .ok (.sipush 192, 3) := by decide +kernel
theorem dd_Mo_months_123 : decode prog_13_method_140_code 123 = .ok (.iaload, 1) := by decide +kernel
theorem dd_Mo_months_124 : decode prog_13_method_140_code 124 = .ok (.iastore, 1) := by decide +kernel
theorem dd_Mo_months_125 : decode prog_13_method_140_code 125 = .ok (.aload_n 0, 1) := by decide +kernel
theorem dd_Mo_months_126 : decode prog_13_method_140_code 126 = .ok (.getfield 113, 3) := by decide +kernel
theorem dd_Mo_months_129 : decode prog_13_method_140_code 129 = .ok (.iconst 2, 1) := by decide +kernel
theorem dd_Mo_months_130 : decode prog_13_method_140_code 130 = .ok (.aload_n 0, 1) := by decide +kernel
theorem dd_Mo_months_131 : decode prog_13_method_140_code 131 = .ok (.invokevirtual 307, 3) := by decide +kernel
theorem dd_Mo_months_134 : decode prog_13_method_140_code 134 = .ok (.iastore, 1) := by decide +kernel
theorem dd_Mo_months_135 : decode prog_13_method_140_code 135 = .ok (.aload_n 0, 1) := by decide +kernel
theorem dd_Mo_months_136 : decode prog_13_method_140_code 136 = .ok (.getfield 113, 3) := by decide +kernel
theorem dd_Mo_months_139 : decode prog_13_method_140_code 139 = .ok (.iconst 3, 1) := by decide +kernel
theorem dd_Mo_months_140 : decode prog_13_method_140_code 140 = .ok (.aload_n 0, 1) := by decide +kernel
theorem dd_Mo_months_141 : decode prog_13_method_140_code 141 = .ok (.getfield 32, 3) := by decide +kernel
theorem dd_Mo_months_144 : decode prog_13_method_140_code 144 = .ok (.sipush 194, 3) := by decide +kernel
theorem dd_Mo_months_147 : decode prog_13_method_140_code 147 = .ok (.iaload, 1) := by decide +kernel
theorem dd_Mo_months_148 : decode prog_13_method_140_code 148 = .ok (.iastore, 1) := by decide +kernel
theorem dd_Mo_months_149 : decode prog_13_method_140_code 149 = .ok (.aload_n 0, 1) := by decide +kernel
theorem dd_Mo_months_150 : decode prog_13_method_140_code 150 = .ok (.iconst 0, 1) := by decide +kernel
theorem dd_Mo_months_151 : decode prog_13_method_140_code 151 = .ok (.invokevirtual 474, 3) := by decide +kernel
theorem dd_Mo_months_154 : decode prog_13_method_140_code 154 = .ok (.aload_n 0, 1) := by decide +kernel
theorem dd_Mo_months_155 : decode prog_13_method_140_code 155 = .ok (.iload_n 3, 1) := by decide +kernel
theorem dd_Mo_months_156 : decode prog_13_method_140_code 156 = .ok (.invokevirtual 14, 3) := by decide +kernel
theorem dd_Mo_months_159 : decode prog_13_method_140_code 159 = .ok (.ireturn, 1) := by decide +kernel
theorem dd_Mo_months_20 : decode prog_13_method_140_code 20 = .ok (.aload_n 0, 1) := by decide +kernel
theorem dd_Mo_months_21 : decode prog_13_method_140_code 21 = .ok (.iconst (-1), 1) := by decide +kernel
theorem dd_Mo_months_22 : decode prog_13_method_140_code 22 = .ok (.invokevirtual 116, 3) := by decide +kernel
theorem dd_Mo_months_25 : decode prog_13_method_140_code 25 = .ok (.ireturn, 1) := by decide +kernel
def jx_Mo_months (p0 : Option Nat) (p1 : Int32) (p2 : Int32) : sf_M (Int32) :=
  sf_bnd (jx_Mo_lies p1 (0 : Int32) (1000000 : Int32)) fun x1 =>
  sf_or (α := Int32) (β := (Unit)) (
  if x1 = 0 then (
  sf_ret (.inr ())
  ) else (
  sf_bnd (jx_Mo_lies p2 (1 : Int32) (60 : Int32)) fun x3 =>
  if x3 = 0 then (
  sf_ret (.inr ())
  ) else (
  sf_bnd (sf_gR 11 2 p0) fun x5 =>
  sf_bnd (sf_aI 0 x5 (227 : Int32)) fun x6 =>
  if x6 = 0 then (
  sf_bnd (sf_rc 11 p0 (jx_Mo_refuses p0 (-3 : Int32))) fun x8 =>
  sf_ret (.inl x8)
  ) else (
  sf_bnd (sf_pI 11 52 p0 p1) fun _ =>
  sf_bnd (sf_pI 11 51 p0 (1 : Int32)) fun _ =>
  sf_bnd (sf_rc 11 p0 (jx_Mo_laysAside p0 (0 : Int32))) fun _ =>
  sf_bnd (sf_loop (β := (Int32 × Int32)) (γ := (Int32)) (fun b10 =>
  if p2 ≤ b10.2 then (
  sf_ret (.inr b10.1)
  ) else (
  sf_bnd (sf_gR 11 2 p0) fun x12 =>
  sf_bnd (sf_aI 0 x12 (194 : Int32)) fun x13 =>
  if (999 : Int32) ≤ x13 then (
  sf_ret (.inr b10.1)
  ) else (
  sf_bnd (sf_rc 11 p0 (jx_Mo_drawnAct p0)) fun x15 =>
  sf_bnd (sf_ret ((b10.1 + x15))) fun y16 =>
  sf_bnd (sf_ret (b10.2 + (1 : Int32))) fun y17 =>
  sf_ret (.inl (y16, y17))
  )
  )
  ) sf_fuel ((0 : Int32), (0 : Int32))) (fun e18 =>
  sf_bnd (sf_gR 11 50 p0) fun x19 =>
  sf_bnd (sf_gR 11 2 p0) fun x20 =>
  sf_bnd (sf_aI 0 x20 (193 : Int32)) fun x21 =>
  sf_bnd (sf_sI 0 x19 (0 : Int32) x21) fun _ =>
  sf_bnd (sf_gR 11 50 p0) fun x22 =>
  sf_bnd (sf_gR 11 2 p0) fun x23 =>
  sf_bnd (sf_aI 0 x23 (192 : Int32)) fun x24 =>
  sf_bnd (sf_sI 0 x22 (1 : Int32) x24) fun _ =>
  sf_bnd (sf_gR 11 50 p0) fun x25 =>
  sf_bnd (sf_rc 11 p0 (jx_Mo_heldAll p0)) fun x26 =>
  sf_bnd (sf_sI 0 x25 (2 : Int32) x26) fun _ =>
  sf_bnd (sf_gR 11 50 p0) fun x27 =>
  sf_bnd (sf_gR 11 2 p0) fun x28 =>
  sf_bnd (sf_aI 0 x28 (194 : Int32)) fun x29 =>
  sf_bnd (sf_sI 0 x27 (3 : Int32) x29) fun _ =>
  sf_bnd (sf_rc 11 p0 (jx_Mo_takesBack p0 (0 : Int32))) fun _ =>
  sf_bnd (sf_rc 11 p0 (jx_Mo_good p0 e18)) fun x31 =>
  sf_ret (.inl x31)
  )
  )
  )
  )
  ) (fun v32 =>
  sf_bnd (sf_rc 11 p0 (jx_Mo_refuses p0 (-1 : Int32))) fun x33 =>
  sf_ret x33
  )
set_option maxRecDepth 20000 in
set_option maxHeartbeats 4000000 in
theorem ok_Mo_months (p0 : Option Nat) (p1 : Int32) (p2 : Int32) : sf_Ok ({ cls := "SplitFaresModel", name := "months", desc := "(II)I" } : Jvm.MethodName) prog_13_method_140_code 5 (some .int) 212 [sf_rv p0, .int p1, .int p2] (jx_Mo_months p0 p1 p2) (fun r => some (.int r)) := by
  refine sf_Ok.of (env := [some (sf_rv p0), some (.int p1), some (.int p2), none, none]) (plainFor_of_name (by decide)) [false, false, false] (fun G => ⟨pk_r, pk_i, pk_i, trivial⟩) (Nat.le_of_ble_eq_true rfl) rfl (fun X => ?_)
  unfold jx_Mo_months
  refine fp_iload_n (i := 1) (x := p1) dd_Mo_months_0 rfl rfl (fr_pc (pc' := 1) rfl ?_)
  refine fp_iconst (v := (0 : Int32)) dd_Mo_months_1 (by decide) (fr_pc (pc' := 2) rfl ?_)
  refine fp_ldc (v := (1000000 : Int32)) dd_Mo_months_2 sw_1346 (fr_pc (pc' := 4) rfl ?_)
  refine fr_callS (stk := []) (ok_Mo_lies p1 (0 : Int32) (1000000 : Int32)) mt_Mo_lies rfl rfl sw_1237 sw_1238 (by decide) (Nat.le_of_ble_eq_true rfl) dd_Mo_months_4 (fun x1 => fr_to (pc' := 7) (env' := [some (sf_rv p0), some (.int p1), some (.int p2), none, none]) (stk' := [.int x1]) rfl rfl rfl ?_)
  refine fr_or (l1 := (fun (v32 : (Unit)) => sf_p 20 [some (sf_rv p0), some (.int p1), some (.int p2), none, none] [])) ?_ (fun v32 => ?_)
  · refine fr_if_eq (tgt := 20) dd_Mo_months_7 rfl (fun _ => ?_) (fun _ => ?_)
    · exact fr_ret rfl
    · refine fr_pc (pc' := 10) rfl ?_
      refine fp_iload_n (i := 2) (x := p2) dd_Mo_months_10 rfl rfl (fr_pc (pc' := 11) rfl ?_)
      refine fp_iconst (v := (1 : Int32)) dd_Mo_months_11 (by decide) (fr_pc (pc' := 12) rfl ?_)
      refine fp_bipush (v := (60 : Int32)) dd_Mo_months_12 (by decide) (fr_pc (pc' := 14) rfl ?_)
      refine fr_callS (stk := []) (ok_Mo_lies p2 (1 : Int32) (60 : Int32)) mt_Mo_lies rfl rfl sw_1237 sw_1238 (by decide) (Nat.le_of_ble_eq_true rfl) dd_Mo_months_14 (fun x3 => fr_to (pc' := 17) (env' := [some (sf_rv p0), some (.int p1), some (.int p2), none, none]) (stk' := [.int x3]) rfl rfl rfl ?_)
      refine fr_if_ne (tgt := 26) dd_Mo_months_17 rfl (fun _ => ?_) (fun _ => ?_)
      · refine fr_pc (pc' := 20) rfl ?_
        exact fr_ret rfl
      · refine fp_aload_n (i := 0) (r := p0) dd_Mo_months_26 rfl rfl (fr_pc (pc' := 27) rfl ?_)
        refine fr_gR cl_11 2 (by decide) rfl sw_1074 dd_Mo_months_27 (fun x5 => fr_pc (pc' := 30) rfl ?_)
        refine fp_sipush (v := (227 : Int32)) dd_Mo_months_30 (by decide) (fr_pc (pc' := 33) rfl ?_)
        refine fr_aI0 dd_Mo_months_33 (fun x6 => fr_pc (pc' := 34) rfl ?_)
        refine fr_if_ne (tgt := 44) dd_Mo_months_34 rfl (fun _ => ?_) (fun _ => ?_)
        · refine fr_pc (pc' := 37) rfl ?_
          refine fp_aload_n (i := 0) (r := p0) dd_Mo_months_37 rfl rfl (fr_pc (pc' := 38) rfl ?_)
          refine fp_bipush (v := (-3 : Int32)) dd_Mo_months_38 (by decide) (fr_pc (pc' := 40) rfl ?_)
          refine fr_callV (stk := []) (As := [.int (-3 : Int32)]) cl_11 (ok_Mo_refuses p0 (-3 : Int32)) mt_Mo_refuses rfl rfl sw_1240 sw_1242 sp_27 (by decide) (Nat.le_of_ble_eq_true rfl) dd_Mo_months_40 (fun x8 => fr_to (pc' := 43) (env' := [some (sf_rv p0), some (.int p1), some (.int p2), none, none]) (stk' := [.int x8]) rfl rfl rfl ?_)
          exact fr_iret (v := x8) rfl rfl dd_Mo_months_43
        · refine fp_aload_n (i := 0) (r := p0) dd_Mo_months_44 rfl rfl (fr_pc (pc' := 45) rfl ?_)
          refine fp_iload_n (i := 1) (x := p1) dd_Mo_months_45 rfl rfl (fr_pc (pc' := 46) rfl ?_)
          refine fr_pI cl_11 52 (by decide) rfl sw_1124 rfl ⟨rfl, rfl⟩ dd_Mo_months_46 (fr_pc (pc' := 49) rfl ?_)
          refine fp_aload_n (i := 0) (r := p0) dd_Mo_months_49 rfl rfl (fr_pc (pc' := 50) rfl ?_)
          refine fp_iconst (v := (1 : Int32)) dd_Mo_months_50 (by decide) (fr_pc (pc' := 51) rfl ?_)
          refine fr_pI cl_11 51 (by decide) rfl sw_1123 rfl ⟨rfl, rfl⟩ dd_Mo_months_51 (fr_pc (pc' := 54) rfl ?_)
          refine fp_aload_n (i := 0) (r := p0) dd_Mo_months_54 rfl rfl (fr_pc (pc' := 55) rfl ?_)
          refine fp_iconst (v := (0 : Int32)) dd_Mo_months_55 (by decide) (fr_pc (pc' := 56) rfl ?_)
          refine fr_callV (stk := []) (As := [.int (0 : Int32)]) cl_11 (ok_Mo_laysAside p0 (0 : Int32)) mt_Mo_laysAside rfl rfl sw_1745 sw_1747 sp_101 (by decide) (Nat.le_of_ble_eq_true rfl) dd_Mo_months_56 (fun u9 => fr_to (pc' := 59) (env' := [some (sf_rv p0), some (.int p1), some (.int p2), none, none]) (stk' := []) rfl rfl rfl ?_)
          refine fp_iconst (v := (0 : Int32)) dd_Mo_months_59 (by decide) (fr_pc (pc' := 60) rfl ?_)
          refine fp_istore_n (i := 3) dd_Mo_months_60 rfl (Nat.le_of_ble_eq_true rfl) (fun _ => c1_i rfl) (fr_to (pc' := 61) (env' := [some (sf_rv p0), some (.int p1), some (.int p2), some (.int (0 : Int32)), none]) (stk' := []) rfl rfl rfl ?_)
          refine fp_iconst (v := (0 : Int32)) dd_Mo_months_61 (by decide) (fr_pc (pc' := 62) rfl ?_)
          refine fp_istore (i := 4) dd_Mo_months_62 (Nat.le_of_ble_eq_true rfl) (fun _ => c1_i rfl) (fr_to (pc' := 64) (env' := [some (sf_rv p0), some (.int p1), some (.int p2), some (.int (0 : Int32)), some (.int (0 : Int32))]) (stk' := []) rfl rfl rfl ?_)
          refine fr_to (pc' := 64) (env' := [some (sf_rv p0), some (.int p1), some (.int p2), some (.int (0 : Int32)), some (.int (0 : Int32))]) (stk' := []) rfl rfl rfl ?_
          refine fr_bnd (l1 := (fun (e18 : (Int32)) => sf_p 97 [some (sf_rv p0), some (.int p1), some (.int p2), some (.int e18), none] [])) (fr_loop (Lb := (fun (b10 : (Int32 × Int32)) => sf_p 64 [some (sf_rv p0), some (.int p1), some (.int p2), some (.int b10.1), some (.int b10.2)] [])) (fun b10 => ?_) _ _) (fun e18 => ?_)
          · refine fp_iload (i := 4) (x := b10.2) dd_Mo_months_64 rfl (fr_pc (pc' := 66) rfl ?_)
            refine fp_iload_n (i := 2) (x := p2) dd_Mo_months_66 rfl rfl (fr_pc (pc' := 67) rfl ?_)
            refine fr_icmp_ge (tgt := 97) dd_Mo_months_67 rfl (fun _ => ?_) (fun _ => ?_)
            · refine fr_wk [true, true, true, true, false] ?_
              exact fr_ret rfl
            · refine fr_pc (pc' := 70) rfl ?_
              refine fp_aload_n (i := 0) (r := p0) dd_Mo_months_70 rfl rfl (fr_pc (pc' := 71) rfl ?_)
              refine fr_gR cl_11 2 (by decide) rfl sw_1074 dd_Mo_months_71 (fun x12 => fr_pc (pc' := 74) rfl ?_)
              refine fp_sipush (v := (194 : Int32)) dd_Mo_months_74 (by decide) (fr_pc (pc' := 77) rfl ?_)
              refine fr_aI0 dd_Mo_months_77 (fun x13 => fr_pc (pc' := 78) rfl ?_)
              refine fp_sipush (v := (999 : Int32)) dd_Mo_months_78 (by decide) (fr_pc (pc' := 81) rfl ?_)
              refine fr_icmp_ge (tgt := 97) dd_Mo_months_81 rfl (fun _ => ?_) (fun _ => ?_)
              · refine fr_wk [true, true, true, true, false] ?_
                exact fr_ret rfl
              · refine fr_pc (pc' := 84) rfl ?_
                refine fp_iload_n (i := 3) (x := b10.1) dd_Mo_months_84 rfl rfl (fr_pc (pc' := 85) rfl ?_)
                refine fp_aload_n (i := 0) (r := p0) dd_Mo_months_85 rfl rfl (fr_pc (pc' := 86) rfl ?_)
                refine fr_callV (stk := [.int b10.1]) (As := []) cl_11 (ok_Mo_drawnAct p0) mt_Mo_drawnAct rfl rfl sw_1773 sw_1775 sp_106 (by decide) (Nat.le_of_ble_eq_true rfl) dd_Mo_months_86 (fun x15 => fr_to (pc' := 89) (env' := [some (sf_rv p0), some (.int p1), some (.int p2), some (.int b10.1), some (.int b10.2)]) (stk' := [.int x15, .int b10.1]) rfl rfl rfl ?_)
                refine fp_iadd dd_Mo_months_89 (fr_pc (pc' := 90) rfl ?_)
                refine fr_nistore_n (i := 3) dd_Mo_months_90 rfl (Nat.le_of_ble_eq_true rfl) (fun _ => c1_i rfl) (fun y16 => fr_to (pc' := 91) (env' := [some (sf_rv p0), some (.int p1), some (.int p2), some (.int y16), some (.int b10.2)]) (stk' := []) rfl rfl rfl ?_)
                refine fr_niinc (i := 4) (x := b10.2) (w := (1 : Int32)) dd_Mo_months_91 rfl (by decide) (Nat.le_of_ble_eq_true rfl) (fun _ => c1_i rfl) (fun y17 => fr_to (pc' := 94) (env' := [some (sf_rv p0), some (.int p1), some (.int p2), some (.int y16), some (.int y17)]) (stk' := []) rfl rfl rfl ?_)
                refine fp_goto (tgt := 64) dd_Mo_months_94 rfl ?_
                exact fr_ret rfl
          · refine fp_aload_n (i := 0) (r := p0) dd_Mo_months_97 rfl rfl (fr_pc (pc' := 98) rfl ?_)
            refine fr_gR cl_11 50 (by decide) rfl sw_1122 dd_Mo_months_98 (fun x19 => fr_pc (pc' := 101) rfl ?_)
            refine fp_iconst (v := (0 : Int32)) dd_Mo_months_101 (by decide) (fr_pc (pc' := 102) rfl ?_)
            refine fp_aload_n (i := 0) (r := p0) dd_Mo_months_102 rfl rfl (fr_pc (pc' := 103) rfl ?_)
            refine fr_gR cl_11 2 (by decide) rfl sw_1074 dd_Mo_months_103 (fun x20 => fr_pc (pc' := 106) rfl ?_)
            refine fp_sipush (v := (193 : Int32)) dd_Mo_months_106 (by decide) (fr_pc (pc' := 109) rfl ?_)
            refine fr_aI0 dd_Mo_months_109 (fun x21 => fr_pc (pc' := 110) rfl ?_)
            refine fr_sI0 dd_Mo_months_110 (fr_pc (pc' := 111) rfl ?_)
            refine fp_aload_n (i := 0) (r := p0) dd_Mo_months_111 rfl rfl (fr_pc (pc' := 112) rfl ?_)
            refine fr_gR cl_11 50 (by decide) rfl sw_1122 dd_Mo_months_112 (fun x22 => fr_pc (pc' := 115) rfl ?_)
            refine fp_iconst (v := (1 : Int32)) dd_Mo_months_115 (by decide) (fr_pc (pc' := 116) rfl ?_)
            refine fp_aload_n (i := 0) (r := p0) dd_Mo_months_116 rfl rfl (fr_pc (pc' := 117) rfl ?_)
            refine fr_gR cl_11 2 (by decide) rfl sw_1074 dd_Mo_months_117 (fun x23 => fr_pc (pc' := 120) rfl ?_)
            refine fp_sipush (v := (192 : Int32)) dd_Mo_months_120 (by decide) (fr_pc (pc' := 123) rfl ?_)
            refine fr_aI0 dd_Mo_months_123 (fun x24 => fr_pc (pc' := 124) rfl ?_)
            refine fr_sI0 dd_Mo_months_124 (fr_pc (pc' := 125) rfl ?_)
            refine fp_aload_n (i := 0) (r := p0) dd_Mo_months_125 rfl rfl (fr_pc (pc' := 126) rfl ?_)
            refine fr_gR cl_11 50 (by decide) rfl sw_1122 dd_Mo_months_126 (fun x25 => fr_pc (pc' := 129) rfl ?_)
            refine fp_iconst (v := (2 : Int32)) dd_Mo_months_129 (by decide) (fr_pc (pc' := 130) rfl ?_)
            refine fp_aload_n (i := 0) (r := p0) dd_Mo_months_130 rfl rfl (fr_pc (pc' := 131) rfl ?_)
            refine fr_callV (stk := [.int (2 : Int32), sf_rv x25]) (As := []) cl_11 (ok_Mo_heldAll p0) mt_Mo_heldAll rfl rfl sw_1469 sw_1471 sp_62 (by decide) (Nat.le_of_ble_eq_true rfl) dd_Mo_months_131 (fun x26 => fr_to (pc' := 134) (env' := [some (sf_rv p0), some (.int p1), some (.int p2), some (.int e18), none]) (stk' := [.int x26, .int (2 : Int32), sf_rv x25]) rfl rfl rfl ?_)
            refine fr_sI0 dd_Mo_months_134 (fr_pc (pc' := 135) rfl ?_)
            refine fp_aload_n (i := 0) (r := p0) dd_Mo_months_135 rfl rfl (fr_pc (pc' := 136) rfl ?_)
            refine fr_gR cl_11 50 (by decide) rfl sw_1122 dd_Mo_months_136 (fun x27 => fr_pc (pc' := 139) rfl ?_)
            refine fp_iconst (v := (3 : Int32)) dd_Mo_months_139 (by decide) (fr_pc (pc' := 140) rfl ?_)
            refine fp_aload_n (i := 0) (r := p0) dd_Mo_months_140 rfl rfl (fr_pc (pc' := 141) rfl ?_)
            refine fr_gR cl_11 2 (by decide) rfl sw_1074 dd_Mo_months_141 (fun x28 => fr_pc (pc' := 144) rfl ?_)
            refine fp_sipush (v := (194 : Int32)) dd_Mo_months_144 (by decide) (fr_pc (pc' := 147) rfl ?_)
            refine fr_aI0 dd_Mo_months_147 (fun x29 => fr_pc (pc' := 148) rfl ?_)
            refine fr_sI0 dd_Mo_months_148 (fr_pc (pc' := 149) rfl ?_)
            refine fp_aload_n (i := 0) (r := p0) dd_Mo_months_149 rfl rfl (fr_pc (pc' := 150) rfl ?_)
            refine fp_iconst (v := (0 : Int32)) dd_Mo_months_150 (by decide) (fr_pc (pc' := 151) rfl ?_)
            refine fr_callV (stk := []) (As := [.int (0 : Int32)]) cl_11 (ok_Mo_takesBack p0 (0 : Int32)) mt_Mo_takesBack rfl rfl sw_1765 sw_1767 sp_105 (by decide) (Nat.le_of_ble_eq_true rfl) dd_Mo_months_151 (fun u30 => fr_to (pc' := 154) (env' := [some (sf_rv p0), some (.int p1), some (.int p2), some (.int e18), none]) (stk' := []) rfl rfl rfl ?_)
            refine fp_aload_n (i := 0) (r := p0) dd_Mo_months_154 rfl rfl (fr_pc (pc' := 155) rfl ?_)
            refine fp_iload_n (i := 3) (x := e18) dd_Mo_months_155 rfl rfl (fr_pc (pc' := 156) rfl ?_)
            refine fr_callV (stk := []) (As := [.int e18]) cl_11 (ok_Mo_good p0 e18) mt_Mo_good rfl rfl sw_1244 sw_1246 sp_28 (by decide) (Nat.le_of_ble_eq_true rfl) dd_Mo_months_156 (fun x31 => fr_to (pc' := 159) (env' := [some (sf_rv p0), some (.int p1), some (.int p2), some (.int e18), none]) (stk' := [.int x31]) rfl rfl rfl ?_)
            exact fr_iret (v := x31) rfl rfl dd_Mo_months_159
  · refine fp_aload_n (i := 0) (r := p0) dd_Mo_months_20 rfl rfl (fr_pc (pc' := 21) rfl ?_)
    refine fp_iconst (v := (-1 : Int32)) dd_Mo_months_21 (by decide) (fr_pc (pc' := 22) rfl ?_)
    refine fr_callV (stk := []) (As := [.int (-1 : Int32)]) cl_11 (ok_Mo_refuses p0 (-1 : Int32)) mt_Mo_refuses rfl rfl sw_1240 sw_1242 sp_27 (by decide) (Nat.le_of_ble_eq_true rfl) dd_Mo_months_22 (fun x33 => fr_to (pc' := 25) (env' := [some (sf_rv p0), some (.int p1), some (.int p2), none, none]) (stk' := [.int x33]) rfl rfl rfl ?_)
    exact fr_iret (v := x33) rfl rfl dd_Mo_months_25
theorem mt_Mo_drawn : sf_Mt ({ cls := "SplitFaresModel", name := "drawn", desc := "(I)I" } : Jvm.MethodName) prog_13_method_141_code 2 (some .int) 1 := ⟨sw_1787, sw_12, ⟨by decide, by decide, by decide +kernel⟩, by decide⟩
theorem dd_Mo_drawn_0 : decode prog_13_method_141_code 0 = .ok (.aload_n 0, 1) := by decide +kernel
theorem dd_Mo_drawn_1 : decode prog_13_method_141_code 1 = .ok (.getfield 514, 3) := by decide +kernel
theorem dd_Mo_drawn_4 : decode prog_13_method_141_code 4 = .ok (.ifCond .eq 21, 3) := by decide +kernel
theorem dd_Mo_drawn_7 : decode prog_13_method_141_code 7 = .ok (.iload_n 1, 1) := by decide +kernel
theorem dd_Mo_drawn_8 : decode prog_13_method_141_code 8 = .ok (.iconst 0, 1) := by decide +kernel
theorem dd_Mo_drawn_9 : decode prog_13_method_141_code 9 = .ok (.iconst 3, 1) := by decide +kernel
theorem dd_Mo_drawn_10 : decode prog_13_method_141_code 10 = .ok (.invokestatic 18, 3) := by decide +kernel
theorem dd_Mo_drawn_13 : decode prog_13_method_141_code 13 = .ok (.ifCond .eq 12, 3) := by decide +kernel
theorem dd_Mo_drawn_16 : decode prog_13_method_141_code 16 = .ok (.aload_n 0, 1) := by decide +kernel
theorem dd_Mo_drawn_17 : decode prog_13_method_141_code 17 = .ok (.getfield 113, 3) := by decide +kernel
theorem dd_Mo_drawn_20 : decode prog_13_method_141_code 20 = .ok (.iload_n 1, 1) := by decide +kernel
theorem dd_Mo_drawn_21 : decode prog_13_method_141_code 21 = .ok (.iaload, 1) := by decide +kernel
theorem dd_Mo_drawn_22 : decode prog_13_method_141_code 22 = .ok (.goto 4, 3) := by decide +kernel
theorem dd_Mo_drawn_25 : decode prog_13_method_141_code 25 = .ok (.iconst (-1), 1) := by decide +kernel
theorem dd_Mo_drawn_26 : decode prog_13_method_141_code 26 = .ok (.ireturn, 1) := by decide +kernel
def jx_Mo_drawn (p0 : Option Nat) (p1 : Int32) : sf_M (Int32) :=
  sf_bnd (sf_gI 11 51 p0) fun x1 =>
  if x1 = 0 then (
  sf_ret (-1 : Int32)
  ) else (
  sf_bnd (jx_Mo_lies p1 (0 : Int32) (3 : Int32)) fun x3 =>
  if x3 = 0 then (
  sf_ret (-1 : Int32)
  ) else (
  sf_bnd (sf_gR 11 50 p0) fun x5 =>
  sf_bnd (sf_aI 0 x5 p1) fun x6 =>
  sf_ret x6
  )
  )
set_option maxRecDepth 20000 in
set_option maxHeartbeats 4000000 in
theorem ok_Mo_drawn (p0 : Option Nat) (p1 : Int32) : sf_Ok ({ cls := "SplitFaresModel", name := "drawn", desc := "(I)I" } : Jvm.MethodName) prog_13_method_141_code 2 (some .int) 1 [sf_rv p0, .int p1] (jx_Mo_drawn p0 p1) (fun r => some (.int r)) := by
  refine sf_Ok.of (env := [some (sf_rv p0), some (.int p1)]) (plainFor_of_name (by decide)) [false, false] (fun G => ⟨pk_r, pk_i, trivial⟩) (Nat.le_of_ble_eq_true rfl) rfl (fun X => ?_)
  unfold jx_Mo_drawn
  refine fp_aload_n (i := 0) (r := p0) dd_Mo_drawn_0 rfl rfl (fr_pc (pc' := 1) rfl ?_)
  refine fr_gI cl_11 51 (by decide) rfl sw_1123 dd_Mo_drawn_1 (fun x1 => fr_pc (pc' := 4) rfl ?_)
  refine fr_if_eq (tgt := 25) dd_Mo_drawn_4 rfl (fun _ => ?_) (fun _ => ?_)
  · refine fp_iconst (v := (-1 : Int32)) dd_Mo_drawn_25 (by decide) (fr_pc (pc' := 26) rfl ?_)
    exact fr_iret (v := (-1 : Int32)) rfl rfl dd_Mo_drawn_26
  · refine fr_pc (pc' := 7) rfl ?_
    refine fp_iload_n (i := 1) (x := p1) dd_Mo_drawn_7 rfl rfl (fr_pc (pc' := 8) rfl ?_)
    refine fp_iconst (v := (0 : Int32)) dd_Mo_drawn_8 (by decide) (fr_pc (pc' := 9) rfl ?_)
    refine fp_iconst (v := (3 : Int32)) dd_Mo_drawn_9 (by decide) (fr_pc (pc' := 10) rfl ?_)
    refine fr_callS (stk := []) (ok_Mo_lies p1 (0 : Int32) (3 : Int32)) mt_Mo_lies rfl rfl sw_1237 sw_1238 (by decide) (Nat.le_of_ble_eq_true rfl) dd_Mo_drawn_10 (fun x3 => fr_to (pc' := 13) (env' := [some (sf_rv p0), some (.int p1)]) (stk' := [.int x3]) rfl rfl rfl ?_)
    refine fr_if_eq (tgt := 25) dd_Mo_drawn_13 rfl (fun _ => ?_) (fun _ => ?_)
    · refine fp_iconst (v := (-1 : Int32)) dd_Mo_drawn_25 (by decide) (fr_pc (pc' := 26) rfl ?_)
      exact fr_iret (v := (-1 : Int32)) rfl rfl dd_Mo_drawn_26
    · refine fr_pc (pc' := 16) rfl ?_
      refine fp_aload_n (i := 0) (r := p0) dd_Mo_drawn_16 rfl rfl (fr_pc (pc' := 17) rfl ?_)
      refine fr_gR cl_11 50 (by decide) rfl sw_1122 dd_Mo_drawn_17 (fun x5 => fr_pc (pc' := 20) rfl ?_)
      refine fp_iload_n (i := 1) (x := p1) dd_Mo_drawn_20 rfl rfl (fr_pc (pc' := 21) rfl ?_)
      refine fr_aI0 dd_Mo_drawn_21 (fun x6 => fr_pc (pc' := 22) rfl ?_)
      refine fp_goto (tgt := 26) dd_Mo_drawn_22 rfl ?_
      exact fr_iret (v := x6) rfl rfl dd_Mo_drawn_26
theorem mt_Mo_count : sf_Mt ({ cls := "SplitFaresModel", name := "count", desc := "(I)I" } : Jvm.MethodName) prog_13_method_142_code 2 (some .int) 1 := ⟨sw_1791, sw_12, ⟨by decide, by decide, by decide +kernel⟩, by decide⟩
theorem dd_Mo_count_0 : decode prog_13_method_142_code 0 = .ok (.iload_n 1, 1) := by decide +kernel
theorem dd_Mo_count_1 : decode prog_13_method_142_code 1 = .ok (.tableswitch 190 0 16 #[83, 92, 101, 110, 115, 124, 133, 138, 143, 143, 143, 153, 160, 168, 177, 177, 177], 83) := by decide +kernel
theorem dd_Mo_count_191 : decode prog_13_method_142_code 191 = .ok (.iconst (-1), 1) := by decide +kernel
theorem dd_Mo_count_192 : decode prog_13_method_142_code 192 = .ok (.ireturn, 1) := by decide +kernel
theorem dd_Mo_count_178 : decode prog_13_method_142_code 178 = .ok (.aload_n 0, 1) := by decide +kernel
theorem dd_Mo_count_179 : decode prog_13_method_142_code 179 = .ok (.getfield 32, 3) := by decide +kernel
theorem dd_Mo_count_182 : decode prog_13_method_142_code 182 = .ok (.iload_n 1, 1) := by decide +kernel
theorem dd_Mo_count_183 : decode prog_13_method_142_code 183 = .ok (.bipush 14, 2) := by decide +kernel
theorem dd_Mo_count_185 : decode prog_13_method_142_code 185 = .ok (.isub, 1) := by decide +kernel
theorem dd_Mo_count_186 : decode prog_13_method_142_code 186 = .ok (.invokestatic 153, 3) := by decide +kernel
theorem dd_Mo_count_189 : decode prog_13_method_142_code 189 = .ok (.iaload, 1) := by decide +kernel
theorem dd_Mo_count_190 : decode prog_13_method_142_code 190 = .ok (.ireturn, 1) := by decide +kernel
theorem dd_Mo_count_169 : decode prog_13_method_142_code 169 = .ok (.aload_n 0, 1) := by decide +kernel
theorem dd_Mo_count_170 : decode prog_13_method_142_code 170 = .ok (.getfield 32, 3) := by decide +kernel
theorem dd_Mo_count_173 : decode prog_13_method_142_code 173 = .ok (.sipush 230, 3) := by decide +kernel
theorem dd_Mo_count_176 : decode prog_13_method_142_code 176 = .ok (.iaload, 1) := by decide +kernel
theorem dd_Mo_count_177 : decode prog_13_method_142_code 177 = .ok (.ireturn, 1) := by decide +kernel
theorem dd_Mo_count_161 : decode prog_13_method_142_code 161 = .ok (.aload_n 0, 1) := by decide +kernel
theorem dd_Mo_count_162 : decode prog_13_method_142_code 162 = .ok (.getfield 7, 3) := by decide +kernel
theorem dd_Mo_count_165 : decode prog_13_method_142_code 165 = .ok (.bipush 6, 2) := by decide +kernel
theorem dd_Mo_count_167 : decode prog_13_method_142_code 167 = .ok (.iaload, 1) := by decide +kernel
theorem dd_Mo_count_168 : decode prog_13_method_142_code 168 = .ok (.ireturn, 1) := by decide +kernel
theorem dd_Mo_count_154 : decode prog_13_method_142_code 154 = .ok (.aload_n 0, 1) := by decide +kernel
theorem dd_Mo_count_155 : decode prog_13_method_142_code 155 = .ok (.getfield 7, 3) := by decide +kernel
theorem dd_Mo_count_158 : decode prog_13_method_142_code 158 = .ok (.iconst 5, 1) := by decide +kernel
theorem dd_Mo_count_159 : decode prog_13_method_142_code 159 = .ok (.iaload, 1) := by decide +kernel
theorem dd_Mo_count_160 : decode prog_13_method_142_code 160 = .ok (.ireturn, 1) := by decide +kernel
theorem dd_Mo_count_144 : decode prog_13_method_142_code 144 = .ok (.aload_n 0, 1) := by decide +kernel
theorem dd_Mo_count_145 : decode prog_13_method_142_code 145 = .ok (.getfield 7, 3) := by decide +kernel
theorem dd_Mo_count_148 : decode prog_13_method_142_code 148 = .ok (.iload_n 1, 1) := by decide +kernel
theorem dd_Mo_count_149 : decode prog_13_method_142_code 149 = .ok (.bipush 7, 2) := by decide +kernel
theorem dd_Mo_count_151 : decode prog_13_method_142_code 151 = .ok (.isub, 1) := by decide +kernel
theorem dd_Mo_count_152 : decode prog_13_method_142_code 152 = .ok (.iaload, 1) := by decide +kernel
theorem dd_Mo_count_153 : decode prog_13_method_142_code 153 = .ok (.ireturn, 1) := by decide +kernel
theorem dd_Mo_count_139 : decode prog_13_method_142_code 139 = .ok (.aload_n 0, 1) := by decide +kernel
theorem dd_Mo_count_140 : decode prog_13_method_142_code 140 = .ok (.getfield 156, 3) := by decide +kernel
theorem dd_Mo_count_143 : decode prog_13_method_142_code 143 = .ok (.ireturn, 1) := by decide +kernel
theorem dd_Mo_count_134 : decode prog_13_method_142_code 134 = .ok (.aload_n 0, 1) := by decide +kernel
theorem dd_Mo_count_135 : decode prog_13_method_142_code 135 = .ok (.getfield 11, 3) := by decide +kernel
theorem dd_Mo_count_138 : decode prog_13_method_142_code 138 = .ok (.ireturn, 1) := by decide +kernel
theorem dd_Mo_count_125 : decode prog_13_method_142_code 125 = .ok (.aload_n 0, 1) := by decide +kernel
theorem dd_Mo_count_126 : decode prog_13_method_142_code 126 = .ok (.getfield 32, 3) := by decide +kernel
theorem dd_Mo_count_129 : decode prog_13_method_142_code 129 = .ok (.sipush 229, 3) := by decide +kernel
theorem dd_Mo_count_132 : decode prog_13_method_142_code 132 = .ok (.iaload, 1) := by decide +kernel
theorem dd_Mo_count_133 : decode prog_13_method_142_code 133 = .ok (.ireturn, 1) := by decide +kernel
theorem dd_Mo_count_116 : decode prog_13_method_142_code 116 = .ok (.aload_n 0, 1) := by decide +kernel
theorem dd_Mo_count_117 : decode prog_13_method_142_code 117 = .ok (.getfield 32, 3) := by decide +kernel
theorem dd_Mo_count_120 : decode prog_13_method_142_code 120 = .ok (.sipush 228, 3) := by decide +kernel
theorem dd_Mo_count_123 : decode prog_13_method_142_code 123 = .ok (.iaload, 1) := by decide +kernel
theorem dd_Mo_count_124 : decode prog_13_method_142_code 124 = .ok (.ireturn, 1) := by decide +kernel
theorem dd_Mo_count_111 : decode prog_13_method_142_code 111 = .ok (.aload_n 0, 1) := by decide +kernel
theorem dd_Mo_count_112 : decode prog_13_method_142_code 112 = .ok (.invokevirtual 307, 3) := by decide +kernel
theorem dd_Mo_count_115 : decode prog_13_method_142_code 115 = .ok (.ireturn, 1) := by decide +kernel
theorem dd_Mo_count_102 : decode prog_13_method_142_code 102 = .ok (.aload_n 0, 1) := by decide +kernel
theorem dd_Mo_count_103 : decode prog_13_method_142_code 103 = .ok (.getfield 32, 3) := by decide +kernel
theorem dd_Mo_count_106 : decode prog_13_method_142_code 106 = .ok (.sipush 193, 3) := by decide +kernel
theorem dd_Mo_count_109 : decode prog_13_method_142_code 109 = .ok (.iaload, 1) := by decide +kernel
theorem dd_Mo_count_110 : decode prog_13_method_142_code 110 = .ok (.ireturn, 1) := by decide +kernel
theorem dd_Mo_count_93 : decode prog_13_method_142_code 93 = .ok (.aload_n 0, 1) := by decide +kernel
theorem dd_Mo_count_94 : decode prog_13_method_142_code 94 = .ok (.getfield 32, 3) := by decide +kernel
theorem dd_Mo_count_97 : decode prog_13_method_142_code 97 = .ok (.sipush 192, 3) := by decide +kernel
theorem dd_Mo_count_100 : decode prog_13_method_142_code 100 = .ok (.iaload, 1) := by decide +kernel
theorem dd_Mo_count_101 : decode prog_13_method_142_code 101 = .ok (.ireturn, 1) := by decide +kernel
theorem dd_Mo_count_84 : decode prog_13_method_142_code 84 = .ok (.aload_n 0, 1) := by decide +kernel
theorem dd_Mo_count_85 : decode prog_13_method_142_code 85 = .ok (.getfield 32, 3) := by decide +kernel
theorem dd_Mo_count_88 : decode prog_13_method_142_code 88 = .ok (.sipush 227, 3) := by decide +kernel
theorem dd_Mo_count_91 : decode prog_13_method_142_code 91 = .ok (.iaload, 1) := by decide +kernel
theorem dd_Mo_count_92 : decode prog_13_method_142_code 92 = .ok (.ireturn, 1) := by decide +kernel
def jx_Mo_count (p0 : Option Nat) (p1 : Int32) : sf_M (Int32) :=
  if p1 = (0 : Int32) then (
  sf_bnd (sf_gR 11 2 p0) fun x1 =>
  sf_bnd (sf_aI 0 x1 (227 : Int32)) fun x2 =>
  sf_ret x2
  ) else (
  if p1 = (1 : Int32) then (
  sf_bnd (sf_gR 11 2 p0) fun x3 =>
  sf_bnd (sf_aI 0 x3 (192 : Int32)) fun x4 =>
  sf_ret x4
  ) else (
  if p1 = (2 : Int32) then (
  sf_bnd (sf_gR 11 2 p0) fun x5 =>
  sf_bnd (sf_aI 0 x5 (193 : Int32)) fun x6 =>
  sf_ret x6
  ) else (
  if p1 = (3 : Int32) then (
  sf_bnd (sf_rc 11 p0 (jx_Mo_heldAll p0)) fun x7 =>
  sf_ret x7
  ) else (
  if p1 = (4 : Int32) then (
  sf_bnd (sf_gR 11 2 p0) fun x8 =>
  sf_bnd (sf_aI 0 x8 (228 : Int32)) fun x9 =>
  sf_ret x9
  ) else (
  if p1 = (5 : Int32) then (
  sf_bnd (sf_gR 11 2 p0) fun x10 =>
  sf_bnd (sf_aI 0 x10 (229 : Int32)) fun x11 =>
  sf_ret x11
  ) else (
  if p1 = (6 : Int32) then (
  sf_bnd (sf_gI 11 40 p0) fun x12 =>
  sf_ret x12
  ) else (
  if p1 = (7 : Int32) then (
  sf_bnd (sf_gI 11 13 p0) fun x13 =>
  sf_ret x13
  ) else (
  if p1 = (8 : Int32) then (
  sf_bnd (sf_gR 11 1 p0) fun x14 =>
  sf_bnd (sf_aI 0 x14 (p1 - (7 : Int32))) fun x15 =>
  sf_ret x15
  ) else (
  if p1 = (9 : Int32) then (
  sf_bnd (sf_gR 11 1 p0) fun x16 =>
  sf_bnd (sf_aI 0 x16 (p1 - (7 : Int32))) fun x17 =>
  sf_ret x17
  ) else (
  if p1 = (10 : Int32) then (
  sf_bnd (sf_gR 11 1 p0) fun x18 =>
  sf_bnd (sf_aI 0 x18 (p1 - (7 : Int32))) fun x19 =>
  sf_ret x19
  ) else (
  if p1 = (11 : Int32) then (
  sf_bnd (sf_gR 11 1 p0) fun x20 =>
  sf_bnd (sf_aI 0 x20 (5 : Int32)) fun x21 =>
  sf_ret x21
  ) else (
  if p1 = (12 : Int32) then (
  sf_bnd (sf_gR 11 1 p0) fun x22 =>
  sf_bnd (sf_aI 0 x22 (6 : Int32)) fun x23 =>
  sf_ret x23
  ) else (
  if p1 = (13 : Int32) then (
  sf_bnd (sf_gR 11 2 p0) fun x24 =>
  sf_bnd (sf_aI 0 x24 (230 : Int32)) fun x25 =>
  sf_ret x25
  ) else (
  if p1 = (14 : Int32) then (
  sf_bnd (sf_gR 11 2 p0) fun x26 =>
  sf_bnd (jx_Mo_termAt (p1 - (14 : Int32))) fun x27 =>
  sf_bnd (sf_aI 0 x26 x27) fun x28 =>
  sf_ret x28
  ) else (
  if p1 = (15 : Int32) then (
  sf_bnd (sf_gR 11 2 p0) fun x29 =>
  sf_bnd (jx_Mo_termAt (p1 - (14 : Int32))) fun x30 =>
  sf_bnd (sf_aI 0 x29 x30) fun x31 =>
  sf_ret x31
  ) else (
  if p1 = (16 : Int32) then (
  sf_bnd (sf_gR 11 2 p0) fun x32 =>
  sf_bnd (jx_Mo_termAt (p1 - (14 : Int32))) fun x33 =>
  sf_bnd (sf_aI 0 x32 x33) fun x34 =>
  sf_ret x34
  ) else (
  sf_ret (-1 : Int32)
  )
  )
  )
  )
  )
  )
  )
  )
  )
  )
  )
  )
  )
  )
  )
  )
  )
set_option maxRecDepth 20000 in
set_option maxHeartbeats 4000000 in
theorem ok_Mo_count (p0 : Option Nat) (p1 : Int32) : sf_Ok ({ cls := "SplitFaresModel", name := "count", desc := "(I)I" } : Jvm.MethodName) prog_13_method_142_code 2 (some .int) 2 [sf_rv p0, .int p1] (jx_Mo_count p0 p1) (fun r => some (.int r)) := by
  refine sf_Ok.of (env := [some (sf_rv p0), some (.int p1)]) (plainFor_of_name (by decide)) [false, false] (fun G => ⟨pk_r, pk_i, trivial⟩) (Nat.le_of_ble_eq_true rfl) rfl (fun X => ?_)
  unfold jx_Mo_count
  refine fp_iload_n (i := 1) (x := p1) dd_Mo_count_0 rfl rfl (fr_pc (pc' := 1) rfl ?_)
  refine fp_tsw (ts := [84, 93, 102, 111, 116, 125, 134, 139, 144, 144, 144, 154, 161, 169, 178, 178, 178]) (t0 := 191) (cs := [((0 : Int32), 84), ((1 : Int32), 93), ((2 : Int32), 102), ((3 : Int32), 111), ((4 : Int32), 116), ((5 : Int32), 125), ((6 : Int32), 134), ((7 : Int32), 139), ((8 : Int32), 144), ((9 : Int32), 144), ((10 : Int32), 144), ((11 : Int32), 154), ((12 : Int32), 161), ((13 : Int32), 169), ((14 : Int32), 178), ((15 : Int32), 178), ((16 : Int32), 178)]) dd_Mo_count_1 (by decide) rfl ?_
  refine fr_sw (fun _ => ?_) (fun _ => ?_)
  · refine fp_aload_n (i := 0) (r := p0) dd_Mo_count_84 rfl rfl (fr_pc (pc' := 85) rfl ?_)
    refine fr_gR cl_11 2 (by decide) rfl sw_1074 dd_Mo_count_85 (fun x1 => fr_pc (pc' := 88) rfl ?_)
    refine fp_sipush (v := (227 : Int32)) dd_Mo_count_88 (by decide) (fr_pc (pc' := 91) rfl ?_)
    refine fr_aI0 dd_Mo_count_91 (fun x2 => fr_pc (pc' := 92) rfl ?_)
    exact fr_iret (v := x2) rfl rfl dd_Mo_count_92
  · refine fr_sw (fun _ => ?_) (fun _ => ?_)
    · refine fp_aload_n (i := 0) (r := p0) dd_Mo_count_93 rfl rfl (fr_pc (pc' := 94) rfl ?_)
      refine fr_gR cl_11 2 (by decide) rfl sw_1074 dd_Mo_count_94 (fun x3 => fr_pc (pc' := 97) rfl ?_)
      refine fp_sipush (v := (192 : Int32)) dd_Mo_count_97 (by decide) (fr_pc (pc' := 100) rfl ?_)
      refine fr_aI0 dd_Mo_count_100 (fun x4 => fr_pc (pc' := 101) rfl ?_)
      exact fr_iret (v := x4) rfl rfl dd_Mo_count_101
    · refine fr_sw (fun _ => ?_) (fun _ => ?_)
      · refine fp_aload_n (i := 0) (r := p0) dd_Mo_count_102 rfl rfl (fr_pc (pc' := 103) rfl ?_)
        refine fr_gR cl_11 2 (by decide) rfl sw_1074 dd_Mo_count_103 (fun x5 => fr_pc (pc' := 106) rfl ?_)
        refine fp_sipush (v := (193 : Int32)) dd_Mo_count_106 (by decide) (fr_pc (pc' := 109) rfl ?_)
        refine fr_aI0 dd_Mo_count_109 (fun x6 => fr_pc (pc' := 110) rfl ?_)
        exact fr_iret (v := x6) rfl rfl dd_Mo_count_110
      · refine fr_sw (fun _ => ?_) (fun _ => ?_)
        · refine fp_aload_n (i := 0) (r := p0) dd_Mo_count_111 rfl rfl (fr_pc (pc' := 112) rfl ?_)
          refine fr_callV (stk := []) (As := []) cl_11 (ok_Mo_heldAll p0) mt_Mo_heldAll rfl rfl sw_1469 sw_1471 sp_62 (by decide) (Nat.le_of_ble_eq_true rfl) dd_Mo_count_112 (fun x7 => fr_to (pc' := 115) (env' := [some (sf_rv p0), some (.int p1)]) (stk' := [.int x7]) rfl rfl rfl ?_)
          exact fr_iret (v := x7) rfl rfl dd_Mo_count_115
        · refine fr_sw (fun _ => ?_) (fun _ => ?_)
          · refine fp_aload_n (i := 0) (r := p0) dd_Mo_count_116 rfl rfl (fr_pc (pc' := 117) rfl ?_)
            refine fr_gR cl_11 2 (by decide) rfl sw_1074 dd_Mo_count_117 (fun x8 => fr_pc (pc' := 120) rfl ?_)
            refine fp_sipush (v := (228 : Int32)) dd_Mo_count_120 (by decide) (fr_pc (pc' := 123) rfl ?_)
            refine fr_aI0 dd_Mo_count_123 (fun x9 => fr_pc (pc' := 124) rfl ?_)
            exact fr_iret (v := x9) rfl rfl dd_Mo_count_124
          · refine fr_sw (fun _ => ?_) (fun _ => ?_)
            · refine fp_aload_n (i := 0) (r := p0) dd_Mo_count_125 rfl rfl (fr_pc (pc' := 126) rfl ?_)
              refine fr_gR cl_11 2 (by decide) rfl sw_1074 dd_Mo_count_126 (fun x10 => fr_pc (pc' := 129) rfl ?_)
              refine fp_sipush (v := (229 : Int32)) dd_Mo_count_129 (by decide) (fr_pc (pc' := 132) rfl ?_)
              refine fr_aI0 dd_Mo_count_132 (fun x11 => fr_pc (pc' := 133) rfl ?_)
              exact fr_iret (v := x11) rfl rfl dd_Mo_count_133
            · refine fr_sw (fun _ => ?_) (fun _ => ?_)
              · refine fp_aload_n (i := 0) (r := p0) dd_Mo_count_134 rfl rfl (fr_pc (pc' := 135) rfl ?_)
                refine fr_gI cl_11 40 (by decide) rfl sw_1112 dd_Mo_count_135 (fun x12 => fr_pc (pc' := 138) rfl ?_)
                exact fr_iret (v := x12) rfl rfl dd_Mo_count_138
              · refine fr_sw (fun _ => ?_) (fun _ => ?_)
                · refine fp_aload_n (i := 0) (r := p0) dd_Mo_count_139 rfl rfl (fr_pc (pc' := 140) rfl ?_)
                  refine fr_gI cl_11 13 (by decide) rfl sw_1085 dd_Mo_count_140 (fun x13 => fr_pc (pc' := 143) rfl ?_)
                  exact fr_iret (v := x13) rfl rfl dd_Mo_count_143
                · refine fr_sw (fun _ => ?_) (fun _ => ?_)
                  · refine fp_aload_n (i := 0) (r := p0) dd_Mo_count_144 rfl rfl (fr_pc (pc' := 145) rfl ?_)
                    refine fr_gR cl_11 1 (by decide) rfl sw_1073 dd_Mo_count_145 (fun x14 => fr_pc (pc' := 148) rfl ?_)
                    refine fp_iload_n (i := 1) (x := p1) dd_Mo_count_148 rfl rfl (fr_pc (pc' := 149) rfl ?_)
                    refine fp_bipush (v := (7 : Int32)) dd_Mo_count_149 (by decide) (fr_pc (pc' := 151) rfl ?_)
                    refine fp_isub dd_Mo_count_151 (fr_pc (pc' := 152) rfl ?_)
                    refine fr_aI0 dd_Mo_count_152 (fun x15 => fr_pc (pc' := 153) rfl ?_)
                    exact fr_iret (v := x15) rfl rfl dd_Mo_count_153
                  · refine fr_sw (fun _ => ?_) (fun _ => ?_)
                    · refine fp_aload_n (i := 0) (r := p0) dd_Mo_count_144 rfl rfl (fr_pc (pc' := 145) rfl ?_)
                      refine fr_gR cl_11 1 (by decide) rfl sw_1073 dd_Mo_count_145 (fun x16 => fr_pc (pc' := 148) rfl ?_)
                      refine fp_iload_n (i := 1) (x := p1) dd_Mo_count_148 rfl rfl (fr_pc (pc' := 149) rfl ?_)
                      refine fp_bipush (v := (7 : Int32)) dd_Mo_count_149 (by decide) (fr_pc (pc' := 151) rfl ?_)
                      refine fp_isub dd_Mo_count_151 (fr_pc (pc' := 152) rfl ?_)
                      refine fr_aI0 dd_Mo_count_152 (fun x17 => fr_pc (pc' := 153) rfl ?_)
                      exact fr_iret (v := x17) rfl rfl dd_Mo_count_153
                    · refine fr_sw (fun _ => ?_) (fun _ => ?_)
                      · refine fp_aload_n (i := 0) (r := p0) dd_Mo_count_144 rfl rfl (fr_pc (pc' := 145) rfl ?_)
                        refine fr_gR cl_11 1 (by decide) rfl sw_1073 dd_Mo_count_145 (fun x18 => fr_pc (pc' := 148) rfl ?_)
                        refine fp_iload_n (i := 1) (x := p1) dd_Mo_count_148 rfl rfl (fr_pc (pc' := 149) rfl ?_)
                        refine fp_bipush (v := (7 : Int32)) dd_Mo_count_149 (by decide) (fr_pc (pc' := 151) rfl ?_)
                        refine fp_isub dd_Mo_count_151 (fr_pc (pc' := 152) rfl ?_)
                        refine fr_aI0 dd_Mo_count_152 (fun x19 => fr_pc (pc' := 153) rfl ?_)
                        exact fr_iret (v := x19) rfl rfl dd_Mo_count_153
                      · refine fr_sw (fun _ => ?_) (fun _ => ?_)
                        · refine fp_aload_n (i := 0) (r := p0) dd_Mo_count_154 rfl rfl (fr_pc (pc' := 155) rfl ?_)
                          refine fr_gR cl_11 1 (by decide) rfl sw_1073 dd_Mo_count_155 (fun x20 => fr_pc (pc' := 158) rfl ?_)
                          refine fp_iconst (v := (5 : Int32)) dd_Mo_count_158 (by decide) (fr_pc (pc' := 159) rfl ?_)
                          refine fr_aI0 dd_Mo_count_159 (fun x21 => fr_pc (pc' := 160) rfl ?_)
                          exact fr_iret (v := x21) rfl rfl dd_Mo_count_160
                        · refine fr_sw (fun _ => ?_) (fun _ => ?_)
                          · refine fp_aload_n (i := 0) (r := p0) dd_Mo_count_161 rfl rfl (fr_pc (pc' := 162) rfl ?_)
                            refine fr_gR cl_11 1 (by decide) rfl sw_1073 dd_Mo_count_162 (fun x22 => fr_pc (pc' := 165) rfl ?_)
                            refine fp_bipush (v := (6 : Int32)) dd_Mo_count_165 (by decide) (fr_pc (pc' := 167) rfl ?_)
                            refine fr_aI0 dd_Mo_count_167 (fun x23 => fr_pc (pc' := 168) rfl ?_)
                            exact fr_iret (v := x23) rfl rfl dd_Mo_count_168
                          · refine fr_sw (fun _ => ?_) (fun _ => ?_)
                            · refine fp_aload_n (i := 0) (r := p0) dd_Mo_count_169 rfl rfl (fr_pc (pc' := 170) rfl ?_)
                              refine fr_gR cl_11 2 (by decide) rfl sw_1074 dd_Mo_count_170 (fun x24 => fr_pc (pc' := 173) rfl ?_)
                              refine fp_sipush (v := (230 : Int32)) dd_Mo_count_173 (by decide) (fr_pc (pc' := 176) rfl ?_)
                              refine fr_aI0 dd_Mo_count_176 (fun x25 => fr_pc (pc' := 177) rfl ?_)
                              exact fr_iret (v := x25) rfl rfl dd_Mo_count_177
                            · refine fr_sw (fun _ => ?_) (fun _ => ?_)
                              · refine fp_aload_n (i := 0) (r := p0) dd_Mo_count_178 rfl rfl (fr_pc (pc' := 179) rfl ?_)
                                refine fr_gR cl_11 2 (by decide) rfl sw_1074 dd_Mo_count_179 (fun x26 => fr_pc (pc' := 182) rfl ?_)
                                refine fp_iload_n (i := 1) (x := p1) dd_Mo_count_182 rfl rfl (fr_pc (pc' := 183) rfl ?_)
                                refine fp_bipush (v := (14 : Int32)) dd_Mo_count_183 (by decide) (fr_pc (pc' := 185) rfl ?_)
                                refine fp_isub dd_Mo_count_185 (fr_pc (pc' := 186) rfl ?_)
                                refine fr_callS (stk := [sf_rv x26]) (ok_Mo_termAt (p1 - (14 : Int32))) mt_Mo_termAt rfl rfl sw_1301 sw_1302 (by decide) (Nat.le_of_ble_eq_true rfl) dd_Mo_count_186 (fun x27 => fr_to (pc' := 189) (env' := [some (sf_rv p0), some (.int p1)]) (stk' := [.int x27, sf_rv x26]) rfl rfl rfl ?_)
                                refine fr_aI0 dd_Mo_count_189 (fun x28 => fr_pc (pc' := 190) rfl ?_)
                                exact fr_iret (v := x28) rfl rfl dd_Mo_count_190
                              · refine fr_sw (fun _ => ?_) (fun _ => ?_)
                                · refine fp_aload_n (i := 0) (r := p0) dd_Mo_count_178 rfl rfl (fr_pc (pc' := 179) rfl ?_)
                                  refine fr_gR cl_11 2 (by decide) rfl sw_1074 dd_Mo_count_179 (fun x29 => fr_pc (pc' := 182) rfl ?_)
                                  refine fp_iload_n (i := 1) (x := p1) dd_Mo_count_182 rfl rfl (fr_pc (pc' := 183) rfl ?_)
                                  refine fp_bipush (v := (14 : Int32)) dd_Mo_count_183 (by decide) (fr_pc (pc' := 185) rfl ?_)
                                  refine fp_isub dd_Mo_count_185 (fr_pc (pc' := 186) rfl ?_)
                                  refine fr_callS (stk := [sf_rv x29]) (ok_Mo_termAt (p1 - (14 : Int32))) mt_Mo_termAt rfl rfl sw_1301 sw_1302 (by decide) (Nat.le_of_ble_eq_true rfl) dd_Mo_count_186 (fun x30 => fr_to (pc' := 189) (env' := [some (sf_rv p0), some (.int p1)]) (stk' := [.int x30, sf_rv x29]) rfl rfl rfl ?_)
                                  refine fr_aI0 dd_Mo_count_189 (fun x31 => fr_pc (pc' := 190) rfl ?_)
                                  exact fr_iret (v := x31) rfl rfl dd_Mo_count_190
                                · refine fr_sw (fun _ => ?_) (fun _ => ?_)
                                  · refine fp_aload_n (i := 0) (r := p0) dd_Mo_count_178 rfl rfl (fr_pc (pc' := 179) rfl ?_)
                                    refine fr_gR cl_11 2 (by decide) rfl sw_1074 dd_Mo_count_179 (fun x32 => fr_pc (pc' := 182) rfl ?_)
                                    refine fp_iload_n (i := 1) (x := p1) dd_Mo_count_182 rfl rfl (fr_pc (pc' := 183) rfl ?_)
                                    refine fp_bipush (v := (14 : Int32)) dd_Mo_count_183 (by decide) (fr_pc (pc' := 185) rfl ?_)
                                    refine fp_isub dd_Mo_count_185 (fr_pc (pc' := 186) rfl ?_)
                                    refine fr_callS (stk := [sf_rv x32]) (ok_Mo_termAt (p1 - (14 : Int32))) mt_Mo_termAt rfl rfl sw_1301 sw_1302 (by decide) (Nat.le_of_ble_eq_true rfl) dd_Mo_count_186 (fun x33 => fr_to (pc' := 189) (env' := [some (sf_rv p0), some (.int p1)]) (stk' := [.int x33, sf_rv x32]) rfl rfl rfl ?_)
                                    refine fr_aI0 dd_Mo_count_189 (fun x34 => fr_pc (pc' := 190) rfl ?_)
                                    exact fr_iret (v := x34) rfl rfl dd_Mo_count_190
                                  · refine fr_pc (pc' := 191) rfl ?_
                                    refine fp_iconst (v := (-1 : Int32)) dd_Mo_count_191 (by decide) (fr_pc (pc' := 192) rfl ?_)
                                    exact fr_iret (v := (-1 : Int32)) rfl rfl dd_Mo_count_192
theorem mt_Mo_status : sf_Mt ({ cls := "SplitFaresModel", name := "status", desc := "()I" } : Jvm.MethodName) prog_13_method_143_code 1 (some .int) 0 := ⟨sw_1795, sw_12, ⟨by decide, by decide, by decide +kernel⟩, by decide⟩
theorem dd_Mo_status_0 : decode prog_13_method_143_code 0 = .ok (.aload_n 0, 1) := by decide +kernel
theorem dd_Mo_status_1 : decode prog_13_method_143_code 1 = .ok (.getfield 3, 3) := by decide +kernel
theorem dd_Mo_status_4 : decode prog_13_method_143_code 4 = .ok (.ireturn, 1) := by decide +kernel
def jx_Mo_status (p0 : Option Nat) : sf_M (Int32) :=
  sf_bnd (sf_gI 11 0 p0) fun x1 =>
  sf_ret x1
set_option maxRecDepth 20000 in
set_option maxHeartbeats 4000000 in
theorem ok_Mo_status (p0 : Option Nat) : sf_Ok ({ cls := "SplitFaresModel", name := "status", desc := "()I" } : Jvm.MethodName) prog_13_method_143_code 1 (some .int) 0 [sf_rv p0] (jx_Mo_status p0) (fun r => some (.int r)) := by
  refine sf_Ok.of (env := [some (sf_rv p0)]) (plainFor_of_name (by decide)) [false] (fun G => ⟨pk_r, trivial⟩) (Nat.le_of_ble_eq_true rfl) rfl (fun X => ?_)
  unfold jx_Mo_status
  refine fp_aload_n (i := 0) (r := p0) dd_Mo_status_0 rfl rfl (fr_pc (pc' := 1) rfl ?_)
  refine fr_gI cl_11 0 (by decide) rfl sw_1072 dd_Mo_status_1 (fun x1 => fr_pc (pc' := 4) rfl ?_)
  exact fr_iret (v := x1) rfl rfl dd_Mo_status_4
