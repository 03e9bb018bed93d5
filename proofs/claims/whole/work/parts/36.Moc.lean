/-! SplitFaresModel: its methods as plain functions, and that the bytecode runs them (printed by program). -/
theorem mt_Mo_readOrder : sf_Mt ({ cls := "SplitFaresModel", name := "readOrder", desc := "()V" } : Jvm.MethodName) prog_13_method_45_code 1 none 0 := ⟨sw_1354, sw_12, ⟨by decide, by decide, by decide +kernel⟩, by decide⟩
theorem dd_Mo_readOrder_0 : decode prog_13_method_45_code 0 = .ok (.aload_n 0, 1) := by decide +kernel
theorem dd_Mo_readOrder_1 : decode prog_13_method_45_code 1 = .ok (.bipush 20, 2) := by decide +kernel
theorem dd_Mo_readOrder_3 : decode prog_13_method_45_code 3 = .ok (.invokevirtual 185, 3) := by decide +kernel
theorem dd_Mo_readOrder_6 : decode prog_13_method_45_code 6 = .ok (.ifCond .ne 21, 3) := by decide +kernel
theorem dd_Mo_readOrder_9 : decode prog_13_method_45_code 9 = .ok (.aload_n 0, 1) := by decide +kernel
theorem dd_Mo_readOrder_10 : decode prog_13_method_45_code 10 = .ok (.bipush 11, 2) := by decide +kernel
theorem dd_Mo_readOrder_12 : decode prog_13_method_45_code 12 = .ok (.invokevirtual 185, 3) := by decide +kernel
theorem dd_Mo_readOrder_15 : decode prog_13_method_45_code 15 = .ok (.ifCond .ne 12, 3) := by decide +kernel
theorem dd_Mo_readOrder_18 : decode prog_13_method_45_code 18 = .ok (.aload_n 0, 1) := by decide +kernel
theorem dd_Mo_readOrder_19 : decode prog_13_method_45_code 19 = .ok (.bipush 21, 2) := by decide +kernel
theorem dd_Mo_readOrder_21 : decode prog_13_method_45_code 21 = .ok (.invokevirtual 185, 3) := by decide +kernel
theorem dd_Mo_readOrder_24 : decode prog_13_method_45_code 24 = .ok (.ifCond .eq 22, 3) := by decide +kernel
theorem dd_Mo_readOrder_46 : decode prog_13_method_45_code 46 = .ok (.aload_n 0, 1) := by decide +kernel
theorem dd_Mo_readOrder_47 : decode prog_13_method_45_code 47 = .ok (.bipush 22, 2) := by decide +kernel
theorem dd_Mo_readOrder_49 : decode prog_13_method_45_code 49 = .ok (.invokevirtual 185, 3) := by decide +kernel
theorem dd_Mo_readOrder_52 : decode prog_13_method_45_code 52 = .ok (.ifCond .eq 11, 3) := by decide +kernel
theorem dd_Mo_readOrder_55 : decode prog_13_method_45_code 55 = .ok (.aload_n 0, 1) := by decide +kernel
theorem dd_Mo_readOrder_56 : decode prog_13_method_45_code 56 = .ok (.iconst 0, 1) := by decide +kernel
theorem dd_Mo_readOrder_57 : decode prog_13_method_45_code 57 = .ok (.invokevirtual 194, 3) := by decide +kernel
theorem dd_Mo_readOrder_60 : decode prog_13_method_45_code 60 = .ok (.goto 9, 3) := by decide +kernel
theorem dd_Mo_readOrder_63 : decode prog_13_method_45_code 63 = .ok (.aload_n 0, 1) := by decide +kernel
theorem dd_Mo_readOrder_64 : decode prog_13_method_45_code 64 = .ok (.bipush 23, 2) := by decide +kernel
theorem dd_Mo_readOrder_66 : decode prog_13_method_45_code 66 = .ok (.invokevirtual 198, 3) := by decide +kernel
theorem dd_Mo_readOrder_27 : decode prog_13_method_45_code 27 = .ok (.aload_n 0, 1) := by decide +kernel
theorem dd_Mo_readOrder_28 : decode prog_13_method_45_code 28 = .ok (.iconst 0, 1) := by decide +kernel
theorem dd_Mo_readOrder_29 : decode prog_13_method_45_code 29 = .ok (.invokevirtual 194, 3) := by decide +kernel
theorem dd_Mo_readOrder_32 : decode prog_13_method_45_code 32 = .ok (.aload_n 0, 1) := by decide +kernel
theorem dd_Mo_readOrder_33 : decode prog_13_method_45_code 33 = .ok (.bipush 12, 2) := by decide +kernel
theorem dd_Mo_readOrder_35 : decode prog_13_method_45_code 35 = .ok (.invokevirtual 198, 3) := by decide +kernel
theorem dd_Mo_readOrder_38 : decode prog_13_method_45_code 38 = .ok (.aload_n 0, 1) := by decide +kernel
theorem dd_Mo_readOrder_39 : decode prog_13_method_45_code 39 = .ok (.iconst 0, 1) := by decide +kernel
theorem dd_Mo_readOrder_40 : decode prog_13_method_45_code 40 = .ok (.invokevirtual 194, 3) := by decide +kernel
theorem dd_Mo_readOrder_43 : decode prog_13_method_45_code 43 = .ok (.goto 26, 3) := by decide +kernel
theorem dd_Mo_readOrder_69 : decode prog_13_method_45_code 69 = .ok (.aload_n 0, 1) := by decide +kernel
theorem dd_Mo_readOrder_70 : decode prog_13_method_45_code 70 = .ok (.bipush 24, 2) := by decide +kernel
theorem dd_Mo_readOrder_72 : decode prog_13_method_45_code 72 = .ok (.invokevirtual 185, 3) := by decide +kernel
theorem dd_Mo_readOrder_75 : decode prog_13_method_45_code 75 = .ok (.ifCond .eq 10, 3) := by decide +kernel
theorem dd_Mo_readOrder_78 : decode prog_13_method_45_code 78 = .ok (.aload_n 0, 1) := by decide +kernel
theorem dd_Mo_readOrder_79 : decode prog_13_method_45_code 79 = .ok (.iconst 1, 1) := by decide +kernel
theorem dd_Mo_readOrder_80 : decode prog_13_method_45_code 80 = .ok (.bipush 20, 2) := by decide +kernel
theorem dd_Mo_readOrder_82 : decode prog_13_method_45_code 82 = .ok (.invokevirtual 204, 3) := by decide +kernel
theorem dd_Mo_readOrder_85 : decode prog_13_method_45_code 85 = .ok (.aload_n 0, 1) := by decide +kernel
theorem dd_Mo_readOrder_86 : decode prog_13_method_45_code 86 = .ok (.iconst 3, 1) := by decide +kernel
theorem dd_Mo_readOrder_87 : decode prog_13_method_45_code 87 = .ok (.invokevirtual 185, 3) := by decide +kernel
theorem dd_Mo_readOrder_90 : decode prog_13_method_45_code 90 = .ok (.ifCond .eq 8, 3) := by decide +kernel
theorem dd_Mo_readOrder_93 : decode prog_13_method_45_code 93 = .ok (.aload_n 0, 1) := by decide +kernel
theorem dd_Mo_readOrder_94 : decode prog_13_method_45_code 94 = .ok (.iconst 0, 1) := by decide +kernel
theorem dd_Mo_readOrder_95 : decode prog_13_method_45_code 95 = .ok (.invokevirtual 201, 3) := by decide +kernel
theorem dd_Mo_readOrder_98 : decode prog_13_method_45_code 98 = .ok (.return_, 1) := by decide +kernel
def jx_Mo_readOrder (p0 : Option Nat) : sf_M (Unit) :=
  sf_bnd (sf_rc 11 p0 (jx_Mo_takes0 p0 (20 : Int32))) fun x1 =>
  sf_bnd (α := (Unit)) (
  sf_or (α := (Unit)) (β := (Unit)) (
  if x1 = 0 then (
  sf_bnd (sf_rc 11 p0 (jx_Mo_takes0 p0 (11 : Int32))) fun x3 =>
  if x3 = 0 then (
  sf_bnd (sf_rc 11 p0 (jx_Mo_takes0 p0 (21 : Int32))) fun x5 =>
  if x5 = 0 then (
  sf_bnd (sf_rc 11 p0 (jx_Mo_takes0 p0 (22 : Int32))) fun x7 =>
  if x7 = 0 then (
  sf_bnd (sf_rc 11 p0 (jx_Mo_must p0 (23 : Int32))) fun _ =>
  sf_ret (.inl ())
  ) else (
  sf_bnd (sf_rc 11 p0 (jx_G2 sf_deep 0 p0 (0 : Int32))) fun _ =>
  sf_ret (.inl ())
  )
  ) else (
  sf_ret (.inr ())
  )
  ) else (
  sf_ret (.inr ())
  )
  ) else (
  sf_ret (.inr ())
  )
  ) (fun v11 =>
  sf_bnd (sf_rc 11 p0 (jx_G2 sf_deep 0 p0 (0 : Int32))) fun _ =>
  sf_bnd (sf_rc 11 p0 (jx_Mo_must p0 (12 : Int32))) fun _ =>
  sf_bnd (sf_rc 11 p0 (jx_G2 sf_deep 0 p0 (0 : Int32))) fun _ =>
  sf_ret ()
  )
  ) (fun v15 =>
  sf_bnd (sf_rc 11 p0 (jx_Mo_takes0 p0 (24 : Int32))) fun x16 =>
  sf_bnd (α := (Unit)) (
  if x16 = 0 then (
  sf_ret ()
  ) else (
  sf_bnd (sf_rc 11 p0 (jx_Mo_mustNumber p0 (1 : Int32) (20 : Int32))) fun _ =>
  sf_ret ()
  )
  ) (fun v19 =>
  sf_bnd (sf_rc 11 p0 (jx_Mo_takes0 p0 (3 : Int32))) fun x20 =>
  if x20 = 0 then (
  sf_ret ()
  ) else (
  sf_bnd (sf_rc 11 p0 (jx_G3 sf_deep 0 p0 (0 : Int32))) fun _ =>
  sf_ret ()
  )
  )
  )
set_option maxRecDepth 20000 in
set_option maxHeartbeats 4000000 in
theorem ok_Mo_readOrder (p0 : Option Nat) : sf_Ok ({ cls := "SplitFaresModel", name := "readOrder", desc := "()V" } : Jvm.MethodName) prog_13_method_45_code 1 none 205 [sf_rv p0] (jx_Mo_readOrder p0) (fun _ => none) := by
  refine sf_Ok.of (env := [some (sf_rv p0)]) (plainFor_of_name (by decide)) [false] (fun G => ⟨pk_r, trivial⟩) (Nat.le_of_ble_eq_true rfl) rfl (fun X => ?_)
  unfold jx_Mo_readOrder
  refine fp_aload_n (i := 0) (r := p0) dd_Mo_readOrder_0 rfl rfl (fr_pc (pc' := 1) rfl ?_)
  refine fp_bipush (v := (20 : Int32)) dd_Mo_readOrder_1 (by decide) (fr_pc (pc' := 3) rfl ?_)
  refine fr_callV (stk := []) (As := [.int (20 : Int32)]) cl_11 (ok_Mo_takes0 p0 (20 : Int32)) mt_Mo_takes0 rfl rfl sw_1355 sw_1357 sp_38 (by decide) (Nat.le_of_ble_eq_true rfl) dd_Mo_readOrder_3 (fun x1 => fr_to (pc' := 6) (env' := [some (sf_rv p0)]) (stk' := [.int x1]) rfl rfl rfl ?_)
  refine fr_bnd (l1 := (fun (v15 : (Unit)) => sf_p 69 [some (sf_rv p0)] [])) ?_ (fun v15 => ?_)
  · refine fr_or (l1 := (fun (v11 : (Unit)) => sf_p 27 [some (sf_rv p0)] [])) ?_ (fun v11 => ?_)
    · refine fr_if_ne (tgt := 27) dd_Mo_readOrder_6 rfl (fun _ => ?_) (fun _ => ?_)
      · refine fr_pc (pc' := 9) rfl ?_
        refine fp_aload_n (i := 0) (r := p0) dd_Mo_readOrder_9 rfl rfl (fr_pc (pc' := 10) rfl ?_)
        refine fp_bipush (v := (11 : Int32)) dd_Mo_readOrder_10 (by decide) (fr_pc (pc' := 12) rfl ?_)
        refine fr_callV (stk := []) (As := [.int (11 : Int32)]) cl_11 (ok_Mo_takes0 p0 (11 : Int32)) mt_Mo_takes0 rfl rfl sw_1355 sw_1357 sp_38 (by decide) (Nat.le_of_ble_eq_true rfl) dd_Mo_readOrder_12 (fun x3 => fr_to (pc' := 15) (env' := [some (sf_rv p0)]) (stk' := [.int x3]) rfl rfl rfl ?_)
        refine fr_if_ne (tgt := 27) dd_Mo_readOrder_15 rfl (fun _ => ?_) (fun _ => ?_)
        · refine fr_pc (pc' := 18) rfl ?_
          refine fp_aload_n (i := 0) (r := p0) dd_Mo_readOrder_18 rfl rfl (fr_pc (pc' := 19) rfl ?_)
          refine fp_bipush (v := (21 : Int32)) dd_Mo_readOrder_19 (by decide) (fr_pc (pc' := 21) rfl ?_)
          refine fr_callV (stk := []) (As := [.int (21 : Int32)]) cl_11 (ok_Mo_takes0 p0 (21 : Int32)) mt_Mo_takes0 rfl rfl sw_1355 sw_1357 sp_38 (by decide) (Nat.le_of_ble_eq_true rfl) dd_Mo_readOrder_21 (fun x5 => fr_to (pc' := 24) (env' := [some (sf_rv p0)]) (stk' := [.int x5]) rfl rfl rfl ?_)
          refine fr_if_eq (tgt := 46) dd_Mo_readOrder_24 rfl (fun _ => ?_) (fun _ => ?_)
          · refine fp_aload_n (i := 0) (r := p0) dd_Mo_readOrder_46 rfl rfl (fr_pc (pc' := 47) rfl ?_)
            refine fp_bipush (v := (22 : Int32)) dd_Mo_readOrder_47 (by decide) (fr_pc (pc' := 49) rfl ?_)
            refine fr_callV (stk := []) (As := [.int (22 : Int32)]) cl_11 (ok_Mo_takes0 p0 (22 : Int32)) mt_Mo_takes0 rfl rfl sw_1355 sw_1357 sp_38 (by decide) (Nat.le_of_ble_eq_true rfl) dd_Mo_readOrder_49 (fun x7 => fr_to (pc' := 52) (env' := [some (sf_rv p0)]) (stk' := [.int x7]) rfl rfl rfl ?_)
            refine fr_if_eq (tgt := 63) dd_Mo_readOrder_52 rfl (fun _ => ?_) (fun _ => ?_)
            · refine fp_aload_n (i := 0) (r := p0) dd_Mo_readOrder_63 rfl rfl (fr_pc (pc' := 64) rfl ?_)
              refine fp_bipush (v := (23 : Int32)) dd_Mo_readOrder_64 (by decide) (fr_pc (pc' := 66) rfl ?_)
              refine fr_callV (stk := []) (As := [.int (23 : Int32)]) cl_11 (ok_Mo_must p0 (23 : Int32)) mt_Mo_must rfl rfl sw_1382 sw_1384 sp_44 (by decide) (Nat.le_of_ble_eq_true rfl) dd_Mo_readOrder_66 (fun u9 => fr_to (pc' := 69) (env' := [some (sf_rv p0)]) (stk' := []) rfl rfl rfl ?_)
              exact fr_ret rfl
            · refine fr_pc (pc' := 55) rfl ?_
              refine fp_aload_n (i := 0) (r := p0) dd_Mo_readOrder_55 rfl rfl (fr_pc (pc' := 56) rfl ?_)
              refine fp_iconst (v := (0 : Int32)) dd_Mo_readOrder_56 (by decide) (fr_pc (pc' := 57) rfl ?_)
              refine fr_callV (stk := []) (As := [.int (0 : Int32)]) cl_11 (ok_Mo_readSum sf_deep p0 (0 : Int32)) mt_Mo_readSum rfl rfl sw_1363 sw_1365 sp_40 (by decide) (Nat.le_of_ble_eq_true rfl) dd_Mo_readOrder_57 (fun u10 => fr_to (pc' := 60) (env' := [some (sf_rv p0)]) (stk' := []) rfl rfl rfl ?_)
              refine fp_goto (tgt := 69) dd_Mo_readOrder_60 rfl ?_
              exact fr_ret rfl
          · refine fr_pc (pc' := 27) rfl ?_
            exact fr_ret rfl
        · exact fr_ret rfl
      · exact fr_ret rfl
    · refine fp_aload_n (i := 0) (r := p0) dd_Mo_readOrder_27 rfl rfl (fr_pc (pc' := 28) rfl ?_)
      refine fp_iconst (v := (0 : Int32)) dd_Mo_readOrder_28 (by decide) (fr_pc (pc' := 29) rfl ?_)
      refine fr_callV (stk := []) (As := [.int (0 : Int32)]) cl_11 (ok_Mo_readSum sf_deep p0 (0 : Int32)) mt_Mo_readSum rfl rfl sw_1363 sw_1365 sp_40 (by decide) (Nat.le_of_ble_eq_true rfl) dd_Mo_readOrder_29 (fun u12 => fr_to (pc' := 32) (env' := [some (sf_rv p0)]) (stk' := []) rfl rfl rfl ?_)
      refine fp_aload_n (i := 0) (r := p0) dd_Mo_readOrder_32 rfl rfl (fr_pc (pc' := 33) rfl ?_)
      refine fp_bipush (v := (12 : Int32)) dd_Mo_readOrder_33 (by decide) (fr_pc (pc' := 35) rfl ?_)
      refine fr_callV (stk := []) (As := [.int (12 : Int32)]) cl_11 (ok_Mo_must p0 (12 : Int32)) mt_Mo_must rfl rfl sw_1382 sw_1384 sp_44 (by decide) (Nat.le_of_ble_eq_true rfl) dd_Mo_readOrder_35 (fun u13 => fr_to (pc' := 38) (env' := [some (sf_rv p0)]) (stk' := []) rfl rfl rfl ?_)
      refine fp_aload_n (i := 0) (r := p0) dd_Mo_readOrder_38 rfl rfl (fr_pc (pc' := 39) rfl ?_)
      refine fp_iconst (v := (0 : Int32)) dd_Mo_readOrder_39 (by decide) (fr_pc (pc' := 40) rfl ?_)
      refine fr_callV (stk := []) (As := [.int (0 : Int32)]) cl_11 (ok_Mo_readSum sf_deep p0 (0 : Int32)) mt_Mo_readSum rfl rfl sw_1363 sw_1365 sp_40 (by decide) (Nat.le_of_ble_eq_true rfl) dd_Mo_readOrder_40 (fun u14 => fr_to (pc' := 43) (env' := [some (sf_rv p0)]) (stk' := []) rfl rfl rfl ?_)
      refine fp_goto (tgt := 69) dd_Mo_readOrder_43 rfl ?_
      exact fr_ret rfl
  · refine fp_aload_n (i := 0) (r := p0) dd_Mo_readOrder_69 rfl rfl (fr_pc (pc' := 70) rfl ?_)
    refine fp_bipush (v := (24 : Int32)) dd_Mo_readOrder_70 (by decide) (fr_pc (pc' := 72) rfl ?_)
    refine fr_callV (stk := []) (As := [.int (24 : Int32)]) cl_11 (ok_Mo_takes0 p0 (24 : Int32)) mt_Mo_takes0 rfl rfl sw_1355 sw_1357 sp_38 (by decide) (Nat.le_of_ble_eq_true rfl) dd_Mo_readOrder_72 (fun x16 => fr_to (pc' := 75) (env' := [some (sf_rv p0)]) (stk' := [.int x16]) rfl rfl rfl ?_)
    refine fr_bnd (l1 := (fun (v19 : (Unit)) => sf_p 85 [some (sf_rv p0)] [])) ?_ (fun v19 => ?_)
    · refine fr_if_eq (tgt := 85) dd_Mo_readOrder_75 rfl (fun _ => ?_) (fun _ => ?_)
      · exact fr_ret rfl
      · refine fr_pc (pc' := 78) rfl ?_
        refine fp_aload_n (i := 0) (r := p0) dd_Mo_readOrder_78 rfl rfl (fr_pc (pc' := 79) rfl ?_)
        refine fp_iconst (v := (1 : Int32)) dd_Mo_readOrder_79 (by decide) (fr_pc (pc' := 80) rfl ?_)
        refine fp_bipush (v := (20 : Int32)) dd_Mo_readOrder_80 (by decide) (fr_pc (pc' := 82) rfl ?_)
        refine fr_callV (stk := []) (As := [.int (1 : Int32), .int (20 : Int32)]) cl_11 (ok_Mo_mustNumber p0 (1 : Int32) (20 : Int32)) mt_Mo_mustNumber rfl rfl sw_1390 sw_1392 sp_46 (by decide) (Nat.le_of_ble_eq_true rfl) dd_Mo_readOrder_82 (fun u18 => fr_to (pc' := 85) (env' := [some (sf_rv p0)]) (stk' := []) rfl rfl rfl ?_)
        exact fr_ret rfl
    · refine fp_aload_n (i := 0) (r := p0) dd_Mo_readOrder_85 rfl rfl (fr_pc (pc' := 86) rfl ?_)
      refine fp_iconst (v := (3 : Int32)) dd_Mo_readOrder_86 (by decide) (fr_pc (pc' := 87) rfl ?_)
      refine fr_callV (stk := []) (As := [.int (3 : Int32)]) cl_11 (ok_Mo_takes0 p0 (3 : Int32)) mt_Mo_takes0 rfl rfl sw_1355 sw_1357 sp_38 (by decide) (Nat.le_of_ble_eq_true rfl) dd_Mo_readOrder_87 (fun x20 => fr_to (pc' := 90) (env' := [some (sf_rv p0)]) (stk' := [.int x20]) rfl rfl rfl ?_)
      refine fr_if_eq (tgt := 98) dd_Mo_readOrder_90 rfl (fun _ => ?_) (fun _ => ?_)
      · exact fr_vret rfl rfl dd_Mo_readOrder_98
      · refine fr_pc (pc' := 93) rfl ?_
        refine fp_aload_n (i := 0) (r := p0) dd_Mo_readOrder_93 rfl rfl (fr_pc (pc' := 94) rfl ?_)
        refine fp_iconst (v := (0 : Int32)) dd_Mo_readOrder_94 (by decide) (fr_pc (pc' := 95) rfl ?_)
        refine fr_callV (stk := []) (As := [.int (0 : Int32)]) cl_11 (ok_Mo_readTest sf_deep p0 (0 : Int32)) mt_Mo_readTest rfl rfl sw_1394 sw_1396 sp_47 (by decide) (Nat.le_of_ble_eq_true rfl) dd_Mo_readOrder_95 (fun u22 => fr_to (pc' := 98) (env' := [some (sf_rv p0)]) (stk' := []) rfl rfl rfl ?_)
        exact fr_vret rfl rfl dd_Mo_readOrder_98
theorem mt_Mo_readOne : sf_Mt ({ cls := "SplitFaresModel", name := "readOne", desc := "()V" } : Jvm.MethodName) prog_13_method_46_code 1 none 0 := ⟨sw_1350, sw_12, ⟨by decide, by decide, by decide +kernel⟩, by decide⟩
theorem dd_Mo_readOne_0 : decode prog_13_method_46_code 0 = .ok (.aload_n 0, 1) := by decide +kernel
theorem dd_Mo_readOne_1 : decode prog_13_method_46_code 1 = .ok (.getfield 208, 3) := by decide +kernel
theorem dd_Mo_readOne_4 : decode prog_13_method_46_code 4 = .ok (.ifCond .eq 10, 3) := by decide +kernel
theorem dd_Mo_readOne_7 : decode prog_13_method_46_code 7 = .ok (.aload_n 0, 1) := by decide +kernel
theorem dd_Mo_readOne_8 : decode prog_13_method_46_code 8 = .ok (.invokevirtual 212, 3) := by decide +kernel
theorem dd_Mo_readOne_11 : decode prog_13_method_46_code 11 = .ok (.goto 7, 3) := by decide +kernel
theorem dd_Mo_readOne_14 : decode prog_13_method_46_code 14 = .ok (.aload_n 0, 1) := by decide +kernel
theorem dd_Mo_readOne_15 : decode prog_13_method_46_code 15 = .ok (.invokevirtual 215, 3) := by decide +kernel
theorem dd_Mo_readOne_18 : decode prog_13_method_46_code 18 = .ok (.return_, 1) := by decide +kernel
def jx_Mo_readOne (p0 : Option Nat) : sf_M (Unit) :=
  sf_bnd (sf_gI 11 10 p0) fun x1 =>
  if x1 = 0 then (
  sf_bnd (sf_rc 11 p0 (jx_Mo_readClause p0)) fun _ =>
  sf_ret ()
  ) else (
  sf_bnd (sf_rc 11 p0 (jx_Mo_readOrder p0)) fun _ =>
  sf_ret ()
  )
set_option maxRecDepth 20000 in
set_option maxHeartbeats 4000000 in
theorem ok_Mo_readOne (p0 : Option Nat) : sf_Ok ({ cls := "SplitFaresModel", name := "readOne", desc := "()V" } : Jvm.MethodName) prog_13_method_46_code 1 none 206 [sf_rv p0] (jx_Mo_readOne p0) (fun _ => none) := by
  refine sf_Ok.of (env := [some (sf_rv p0)]) (plainFor_of_name (by decide)) [false] (fun G => ⟨pk_r, trivial⟩) (Nat.le_of_ble_eq_true rfl) rfl (fun X => ?_)
  unfold jx_Mo_readOne
  refine fp_aload_n (i := 0) (r := p0) dd_Mo_readOne_0 rfl rfl (fr_pc (pc' := 1) rfl ?_)
  refine fr_gI cl_11 10 (by decide) rfl sw_1082 dd_Mo_readOne_1 (fun x1 => fr_pc (pc' := 4) rfl ?_)
  refine fr_if_eq (tgt := 14) dd_Mo_readOne_4 rfl (fun _ => ?_) (fun _ => ?_)
  · refine fp_aload_n (i := 0) (r := p0) dd_Mo_readOne_14 rfl rfl (fr_pc (pc' := 15) rfl ?_)
    refine fr_callV (stk := []) (As := []) cl_11 (ok_Mo_readClause p0) mt_Mo_readClause rfl rfl sw_1406 sw_1408 sp_50 (by decide) (Nat.le_of_ble_eq_true rfl) dd_Mo_readOne_15 (fun u3 => fr_to (pc' := 18) (env' := [some (sf_rv p0)]) (stk' := []) rfl rfl rfl ?_)
    exact fr_vret rfl rfl dd_Mo_readOne_18
  · refine fr_pc (pc' := 7) rfl ?_
    refine fp_aload_n (i := 0) (r := p0) dd_Mo_readOne_7 rfl rfl (fr_pc (pc' := 8) rfl ?_)
    refine fr_callV (stk := []) (As := []) cl_11 (ok_Mo_readOrder p0) mt_Mo_readOrder rfl rfl sw_1351 sw_1353 sp_37 (by decide) (Nat.le_of_ble_eq_true rfl) dd_Mo_readOne_8 (fun u4 => fr_to (pc' := 11) (env' := [some (sf_rv p0)]) (stk' := []) rfl rfl rfl ?_)
    refine fp_goto (tgt := 18) dd_Mo_readOne_11 rfl ?_
    exact fr_vret rfl rfl dd_Mo_readOne_18
theorem mt_Mo_reads : sf_Mt ({ cls := "SplitFaresModel", name := "reads", desc := "()Z" } : Jvm.MethodName) prog_13_method_53_code 2 (some .boolean) 0 := ⟨sw_1331, sw_12, ⟨by decide, by decide, by decide +kernel⟩, by decide⟩
theorem dd_Mo_reads_0 : decode prog_13_method_53_code 0 = .ok (.aload_n 0, 1) := by decide +kernel
theorem dd_Mo_reads_1 : decode prog_13_method_53_code 1 = .ok (.aload_n 0, 1) := by decide +kernel
theorem dd_Mo_reads_2 : decode prog_13_method_53_code 2 = .ok (.getfield 156, 3) := by decide +kernel
theorem dd_Mo_reads_5 : decode prog_13_method_53_code 5 = .ok (.invokevirtual 243, 3) := by decide +kernel
theorem dd_Mo_reads_8 : decode prog_13_method_53_code 8 = .ok (.aload_n 0, 1) := by decide +kernel
theorem dd_Mo_reads_9 : decode prog_13_method_53_code 9 = .ok (.iconst 0, 1) := by decide +kernel
theorem dd_Mo_reads_10 : decode prog_13_method_53_code 10 = .ok (.putfield 156, 3) := by decide +kernel
theorem dd_Mo_reads_13 : decode prog_13_method_53_code 13 = .ok (.aload_n 0, 1) := by decide +kernel
theorem dd_Mo_reads_14 : decode prog_13_method_53_code 14 = .ok (.iconst 0, 1) := by decide +kernel
theorem dd_Mo_reads_15 : decode prog_13_method_53_code 15 = .ok (.putfield 182, 3) := by decide +kernel
theorem dd_Mo_reads_18 : decode prog_13_method_53_code 18 = .ok (.aload_n 0, 1) := by decide +kernel
theorem dd_Mo_reads_19 : decode prog_13_method_53_code 19 = .ok (.iconst 0, 1) := by decide +kernel
theorem dd_Mo_reads_20 : decode prog_13_method_53_code 20 = .ok (.putfield 191, 3) := by decide +kernel
theorem dd_Mo_reads_23 : decode prog_13_method_53_code 23 = .ok (.aload_n 0, 1) := by decide +kernel
theorem dd_Mo_reads_24 : decode prog_13_method_53_code 24 = .ok (.iconst (-1), 1) := by decide +kernel
theorem dd_Mo_reads_25 : decode prog_13_method_53_code 25 = .ok (.putfield 175, 3) := by decide +kernel
theorem dd_Mo_reads_28 : decode prog_13_method_53_code 28 = .ok (.aload_n 0, 1) := by decide +kernel
theorem dd_Mo_reads_29 : decode prog_13_method_53_code 29 = .ok (.invokevirtual 246, 3) := by decide +kernel
theorem dd_Mo_reads_32 : decode prog_13_method_53_code 32 = .ok (.iconst 1, 1) := by decide +kernel
theorem dd_Mo_reads_33 : decode prog_13_method_53_code 33 = .ok (.istore_n 1, 1) := by decide +kernel
theorem dd_Mo_reads_34 : decode prog_13_method_53_code 34 = .ok (.aload_n 0, 1) := by decide +kernel
theorem dd_Mo_reads_35 : decode prog_13_method_53_code 35 = .ok (.bipush 59, 2) := by decide +kernel
theorem dd_Mo_reads_37 : decode prog_13_method_53_code 37 = .ok (.invokestatic 224, 3) := by decide +kernel
theorem dd_Mo_reads_40 : decode prog_13_method_53_code 40 = .ok (.invokevirtual 185, 3) := by decide +kernel
theorem dd_Mo_reads_43 : decode prog_13_method_53_code 43 = .ok (.ifCond .eq 30, 3) := by decide +kernel
theorem dd_Mo_reads_46 : decode prog_13_method_53_code 46 = .ok (.iload_n 1, 1) := by decide +kernel
theorem dd_Mo_reads_47 : decode prog_13_method_53_code 47 = .ok (.bipush 12, 2) := by decide +kernel
theorem dd_Mo_reads_49 : decode prog_13_method_53_code 49 = .ok (.if_icmp .ne 7, 3) := by decide +kernel
theorem dd_Mo_reads_52 : decode prog_13_method_53_code 52 = .ok (.aload_n 0, 1) := by decide +kernel
theorem dd_Mo_reads_53 : decode prog_13_method_53_code 53 = .ok (.invokevirtual 188, 3) := by decide +kernel
theorem dd_Mo_reads_56 : decode prog_13_method_53_code 56 = .ok (.aload_n 0, 1) := by decide +kernel
theorem dd_Mo_reads_57 : decode prog_13_method_53_code 57 = .ok (.invokevirtual 178, 3) := by decide +kernel
theorem dd_Mo_reads_60 : decode prog_13_method_53_code 60 = .ok (.ifCond .eq 7, 3) := by decide +kernel
theorem dd_Mo_reads_63 : decode prog_13_method_53_code 63 = .ok (.aload_n 0, 1) := by decide +kernel
theorem dd_Mo_reads_64 : decode prog_13_method_53_code 64 = .ok (.invokevirtual 246, 3) := by decide +kernel
theorem dd_Mo_reads_67 : decode prog_13_method_53_code 67 = .ok (.iinc 1 1, 3) := by decide +kernel
theorem dd_Mo_reads_70 : decode prog_13_method_53_code 70 = .ok (.goto (-36), 3) := by decide +kernel
theorem dd_Mo_reads_73 : decode prog_13_method_53_code 73 = .ok (.aload_n 0, 1) := by decide +kernel
theorem dd_Mo_reads_74 : decode prog_13_method_53_code 74 = .ok (.invokevirtual 178, 3) := by decide +kernel
theorem dd_Mo_reads_77 : decode prog_13_method_53_code 77 = .ok (.ifCond .eq 18, 3) := by decide +kernel
theorem dd_Mo_reads_80 : decode prog_13_method_53_code 80 = .ok (.aload_n 0, 1) := by decide +kernel
theorem dd_Mo_reads_81 : decode prog_13_method_53_code 81 = .ok (.getfield 182, 3) := by decide +kernel
theorem dd_Mo_reads_84 : decode prog_13_method_53_code 84 = .ok (.aload_n 0, 1) := by decide +kernel
theorem dd_Mo_reads_85 : decode prog_13_method_53_code 85 = .ok (.getfield 162, 3) := by decide +kernel
theorem dd_Mo_reads_88 : decode prog_13_method_53_code 88 = .ok (.if_icmp .ge 7, 3) := by decide +kernel
theorem dd_Mo_reads_91 : decode prog_13_method_53_code 91 = .ok (.aload_n 0, 1) := by decide +kernel
theorem dd_Mo_reads_92 : decode prog_13_method_53_code 92 = .ok (.invokevirtual 188, 3) := by decide +kernel
theorem dd_Mo_reads_95 : decode prog_13_method_53_code 95 = .ok (.aload_n 0, 1) := by decide +kernel
theorem dd_Mo_reads_96 : decode prog_13_method_53_code 96 = .ok (.aload_n 0, 1) := by decide +kernel
theorem dd_Mo_reads_97 : decode prog_13_method_53_code 97 = .ok (.getfield 175, 3) := by decide +kernel
theorem dd_Mo_reads_100 : decode prog_13_method_53_code 100 = .ok (.putfield 55, 3) := by decide +kernel
theorem dd_Mo_reads_103 : decode prog_13_method_53_code 103 = .ok (.aload_n 0, 1) := by decide +kernel
theorem dd_Mo_reads_104 : decode prog_13_method_53_code 104 = .ok (.invokevirtual 178, 3) := by decide +kernel
theorem dd_Mo_reads_107 : decode prog_13_method_53_code 107 = .ok (.ireturn, 1) := by decide +kernel
def jx_Mo_reads (p0 : Option Nat) : sf_M (Int32) :=
  sf_bnd (sf_gI 11 13 p0) fun x1 =>
  sf_bnd (sf_rc 11 p0 (jx_Mo_splits p0 x1)) fun _ =>
  sf_bnd (sf_pI 11 13 p0 (0 : Int32)) fun _ =>
  sf_bnd (sf_pI 11 19 p0 (0 : Int32)) fun _ =>
  sf_bnd (sf_pI 11 20 p0 (0 : Int32)) fun _ =>
  sf_bnd (sf_pI 11 21 p0 (-1 : Int32)) fun _ =>
  sf_bnd (sf_rc 11 p0 (jx_Mo_readOne p0)) fun _ =>
  sf_bnd (sf_loop (β := (Int32)) (γ := (Unit)) (fun b4 =>
  sf_bnd (jx_Mo_sign (59 : Int32)) fun x5 =>
  sf_bnd (sf_rc 11 p0 (jx_Mo_takes0 p0 x5)) fun x6 =>
  if x6 = 0 then (
  sf_ret (.inr ())
  ) else (
  sf_bnd (α := (Unit)) (
  if b4 = (12 : Int32) then (
  sf_bnd (sf_rc 11 p0 (jx_Mo_faults p0)) fun _ =>
  sf_ret ()
  ) else (
  sf_ret ()
  )
  ) (fun v10 =>
  sf_bnd (sf_rc 11 p0 (jx_Mo_fine p0)) fun x11 =>
  if x11 = 0 then (
  sf_bnd (sf_ret (b4 + (1 : Int32))) fun y13 =>
  sf_ret (.inl y13)
  ) else (
  sf_bnd (sf_rc 11 p0 (jx_Mo_readOne p0)) fun _ =>
  sf_bnd (sf_ret (b4 + (1 : Int32))) fun y15 =>
  sf_ret (.inl y15)
  )
  )
  )
  ) sf_fuel (1 : Int32)) (fun e16 =>
  sf_bnd (sf_rc 11 p0 (jx_Mo_fine p0)) fun x17 =>
  sf_bnd (α := (Unit)) (
  if x17 = 0 then (
  sf_ret ()
  ) else (
  sf_bnd (sf_gI 11 19 p0) fun x19 =>
  sf_bnd (sf_gI 11 18 p0) fun x20 =>
  if x20 ≤ x19 then (
  sf_ret ()
  ) else (
  sf_bnd (sf_rc 11 p0 (jx_Mo_faults p0)) fun _ =>
  sf_ret ()
  )
  )
  ) (fun v23 =>
  sf_bnd (sf_gI 11 21 p0) fun x24 =>
  sf_bnd (sf_pI 11 14 p0 x24) fun _ =>
  sf_bnd (sf_rc 11 p0 (jx_Mo_fine p0)) fun x25 =>
  sf_bnd (sf_rz x25) fun x26 =>
  sf_ret x26
  )
  )
set_option maxRecDepth 20000 in
set_option maxHeartbeats 4000000 in
theorem ok_Mo_reads (p0 : Option Nat) : sf_Ok ({ cls := "SplitFaresModel", name := "reads", desc := "()Z" } : Jvm.MethodName) prog_13_method_53_code 2 (some .boolean) 207 [sf_rv p0] (jx_Mo_reads p0) (fun r => some (.int r)) := by
  refine sf_Ok.of (env := [some (sf_rv p0), none]) (plainFor_of_name (by decide)) [false] (fun G => ⟨pk_r, trivial⟩) (Nat.le_of_ble_eq_true rfl) rfl (fun X => ?_)
  unfold jx_Mo_reads
  refine fp_aload_n (i := 0) (r := p0) dd_Mo_reads_0 rfl rfl (fr_pc (pc' := 1) rfl ?_)
  refine fp_aload_n (i := 0) (r := p0) dd_Mo_reads_1 rfl rfl (fr_pc (pc' := 2) rfl ?_)
  refine fr_gI cl_11 13 (by decide) rfl sw_1085 dd_Mo_reads_2 (fun x1 => fr_pc (pc' := 5) rfl ?_)
  refine fr_callV (stk := []) (As := [.int x1]) cl_11 (ok_Mo_splits p0 x1) mt_Mo_splits rfl rfl sw_1332 sw_1334 sp_34 (by decide) (Nat.le_of_ble_eq_true rfl) dd_Mo_reads_5 (fun u2 => fr_to (pc' := 8) (env' := [some (sf_rv p0), none]) (stk' := []) rfl rfl rfl ?_)
  refine fp_aload_n (i := 0) (r := p0) dd_Mo_reads_8 rfl rfl (fr_pc (pc' := 9) rfl ?_)
  refine fp_iconst (v := (0 : Int32)) dd_Mo_reads_9 (by decide) (fr_pc (pc' := 10) rfl ?_)
  refine fr_pI cl_11 13 (by decide) rfl sw_1085 rfl ⟨rfl, rfl⟩ dd_Mo_reads_10 (fr_pc (pc' := 13) rfl ?_)
  refine fp_aload_n (i := 0) (r := p0) dd_Mo_reads_13 rfl rfl (fr_pc (pc' := 14) rfl ?_)
  refine fp_iconst (v := (0 : Int32)) dd_Mo_reads_14 (by decide) (fr_pc (pc' := 15) rfl ?_)
  refine fr_pI cl_11 19 (by decide) rfl sw_1091 rfl ⟨rfl, rfl⟩ dd_Mo_reads_15 (fr_pc (pc' := 18) rfl ?_)
  refine fp_aload_n (i := 0) (r := p0) dd_Mo_reads_18 rfl rfl (fr_pc (pc' := 19) rfl ?_)
  refine fp_iconst (v := (0 : Int32)) dd_Mo_reads_19 (by decide) (fr_pc (pc' := 20) rfl ?_)
  refine fr_pI cl_11 20 (by decide) rfl sw_1092 rfl ⟨rfl, rfl⟩ dd_Mo_reads_20 (fr_pc (pc' := 23) rfl ?_)
  refine fp_aload_n (i := 0) (r := p0) dd_Mo_reads_23 rfl rfl (fr_pc (pc' := 24) rfl ?_)
  refine fp_iconst (v := (-1 : Int32)) dd_Mo_reads_24 (by decide) (fr_pc (pc' := 25) rfl ?_)
  refine fr_pI cl_11 21 (by decide) rfl sw_1093 rfl ⟨rfl, rfl⟩ dd_Mo_reads_25 (fr_pc (pc' := 28) rfl ?_)
  refine fp_aload_n (i := 0) (r := p0) dd_Mo_reads_28 rfl rfl (fr_pc (pc' := 29) rfl ?_)
  refine fr_callV (stk := []) (As := []) cl_11 (ok_Mo_readOne p0) mt_Mo_readOne rfl rfl sw_1347 sw_1349 sp_36 (by decide) (Nat.le_of_ble_eq_true rfl) dd_Mo_reads_29 (fun u3 => fr_to (pc' := 32) (env' := [some (sf_rv p0), none]) (stk' := []) rfl rfl rfl ?_)
  refine fp_iconst (v := (1 : Int32)) dd_Mo_reads_32 (by decide) (fr_pc (pc' := 33) rfl ?_)
  refine fp_istore_n (i := 1) dd_Mo_reads_33 rfl (Nat.le_of_ble_eq_true rfl) (fun _ => c1_r rfl) (fr_to (pc' := 34) (env' := [some (sf_rv p0), some (.int (1 : Int32))]) (stk' := []) rfl rfl rfl ?_)
  refine fr_to (pc' := 34) (env' := [some (sf_rv p0), some (.int (1 : Int32))]) (stk' := []) rfl rfl rfl ?_
  refine fr_bnd (l1 := (fun (e16 : (Unit)) => sf_p 73 [some (sf_rv p0), none] [])) (fr_loop (Lb := (fun (b4 : (Int32)) => sf_p 34 [some (sf_rv p0), some (.int b4)] [])) (fun b4 => ?_) _ _) (fun e16 => ?_)
  · refine fp_aload_n (i := 0) (r := p0) dd_Mo_reads_34 rfl rfl (fr_pc (pc' := 35) rfl ?_)
    refine fp_bipush (v := (59 : Int32)) dd_Mo_reads_35 (by decide) (fr_pc (pc' := 37) rfl ?_)
    refine fr_callS (stk := [sf_rv p0]) (ok_Mo_sign (59 : Int32)) mt_Mo_sign rfl rfl sw_1375 sw_1376 (by decide) (Nat.le_of_ble_eq_true rfl) dd_Mo_reads_37 (fun x5 => fr_to (pc' := 40) (env' := [some (sf_rv p0), some (.int b4)]) (stk' := [.int x5, sf_rv p0]) rfl rfl rfl ?_)
    refine fr_callV (stk := []) (As := [.int x5]) cl_11 (ok_Mo_takes0 p0 x5) mt_Mo_takes0 rfl rfl sw_1355 sw_1357 sp_38 (by decide) (Nat.le_of_ble_eq_true rfl) dd_Mo_reads_40 (fun x6 => fr_to (pc' := 43) (env' := [some (sf_rv p0), some (.int b4)]) (stk' := [.int x6]) rfl rfl rfl ?_)
    refine fr_if_eq (tgt := 73) dd_Mo_reads_43 rfl (fun _ => ?_) (fun _ => ?_)
    · refine fr_wk [true, false] ?_
      exact fr_ret rfl
    · refine fr_pc (pc' := 46) rfl ?_
      refine fp_iload_n (i := 1) (x := b4) dd_Mo_reads_46 rfl rfl (fr_pc (pc' := 47) rfl ?_)
      refine fp_bipush (v := (12 : Int32)) dd_Mo_reads_47 (by decide) (fr_pc (pc' := 49) rfl ?_)
      refine fr_bnd (l1 := (fun (v10 : (Unit)) => sf_p 56 [some (sf_rv p0), some (.int b4)] [])) ?_ (fun v10 => ?_)
      · refine fr_icmp_ne (tgt := 56) dd_Mo_reads_49 rfl (fun _ => ?_) (fun _ => ?_)
        · refine fr_pc (pc' := 52) rfl ?_
          refine fp_aload_n (i := 0) (r := p0) dd_Mo_reads_52 rfl rfl (fr_pc (pc' := 53) rfl ?_)
          refine fr_callV (stk := []) (As := []) cl_11 (ok_Mo_faults p0) mt_Mo_faults rfl rfl sw_1378 sw_1380 sp_43 (by decide) (Nat.le_of_ble_eq_true rfl) dd_Mo_reads_53 (fun u9 => fr_to (pc' := 56) (env' := [some (sf_rv p0), some (.int b4)]) (stk' := []) rfl rfl rfl ?_)
          exact fr_ret rfl
        · exact fr_ret rfl
      · refine fp_aload_n (i := 0) (r := p0) dd_Mo_reads_56 rfl rfl (fr_pc (pc' := 57) rfl ?_)
        refine fr_callV (stk := []) (As := []) cl_11 (ok_Mo_fine p0) mt_Mo_fine rfl rfl sw_1359 sw_1361 sp_39 (by decide) (Nat.le_of_ble_eq_true rfl) dd_Mo_reads_57 (fun x11 => fr_to (pc' := 60) (env' := [some (sf_rv p0), some (.int b4)]) (stk' := [.int x11]) rfl rfl rfl ?_)
        refine fr_if_eq (tgt := 67) dd_Mo_reads_60 rfl (fun _ => ?_) (fun _ => ?_)
        · refine fr_niinc (i := 1) (x := b4) (w := (1 : Int32)) dd_Mo_reads_67 rfl (by decide) (Nat.le_of_ble_eq_true rfl) (fun _ => c1_r rfl) (fun y13 => fr_to (pc' := 70) (env' := [some (sf_rv p0), some (.int y13)]) (stk' := []) rfl rfl rfl ?_)
          refine fp_goto (tgt := 34) dd_Mo_reads_70 rfl ?_
          exact fr_ret rfl
        · refine fr_pc (pc' := 63) rfl ?_
          refine fp_aload_n (i := 0) (r := p0) dd_Mo_reads_63 rfl rfl (fr_pc (pc' := 64) rfl ?_)
          refine fr_callV (stk := []) (As := []) cl_11 (ok_Mo_readOne p0) mt_Mo_readOne rfl rfl sw_1347 sw_1349 sp_36 (by decide) (Nat.le_of_ble_eq_true rfl) dd_Mo_reads_64 (fun u14 => fr_to (pc' := 67) (env' := [some (sf_rv p0), some (.int b4)]) (stk' := []) rfl rfl rfl ?_)
          refine fr_niinc (i := 1) (x := b4) (w := (1 : Int32)) dd_Mo_reads_67 rfl (by decide) (Nat.le_of_ble_eq_true rfl) (fun _ => c1_r rfl) (fun y15 => fr_to (pc' := 70) (env' := [some (sf_rv p0), some (.int y15)]) (stk' := []) rfl rfl rfl ?_)
          refine fp_goto (tgt := 34) dd_Mo_reads_70 rfl ?_
          exact fr_ret rfl
  · refine fp_aload_n (i := 0) (r := p0) dd_Mo_reads_73 rfl rfl (fr_pc (pc' := 74) rfl ?_)
    refine fr_callV (stk := []) (As := []) cl_11 (ok_Mo_fine p0) mt_Mo_fine rfl rfl sw_1359 sw_1361 sp_39 (by decide) (Nat.le_of_ble_eq_true rfl) dd_Mo_reads_74 (fun x17 => fr_to (pc' := 77) (env' := [some (sf_rv p0), none]) (stk' := [.int x17]) rfl rfl rfl ?_)
    refine fr_bnd (l1 := (fun (v23 : (Unit)) => sf_p 95 [some (sf_rv p0), none] [])) ?_ (fun v23 => ?_)
    · refine fr_if_eq (tgt := 95) dd_Mo_reads_77 rfl (fun _ => ?_) (fun _ => ?_)
      · exact fr_ret rfl
      · refine fr_pc (pc' := 80) rfl ?_
        refine fp_aload_n (i := 0) (r := p0) dd_Mo_reads_80 rfl rfl (fr_pc (pc' := 81) rfl ?_)
        refine fr_gI cl_11 19 (by decide) rfl sw_1091 dd_Mo_reads_81 (fun x19 => fr_pc (pc' := 84) rfl ?_)
        refine fp_aload_n (i := 0) (r := p0) dd_Mo_reads_84 rfl rfl (fr_pc (pc' := 85) rfl ?_)
        refine fr_gI cl_11 18 (by decide) rfl sw_1090 dd_Mo_reads_85 (fun x20 => fr_pc (pc' := 88) rfl ?_)
        refine fr_icmp_ge (tgt := 95) dd_Mo_reads_88 rfl (fun _ => ?_) (fun _ => ?_)
        · exact fr_ret rfl
        · refine fr_pc (pc' := 91) rfl ?_
          refine fp_aload_n (i := 0) (r := p0) dd_Mo_reads_91 rfl rfl (fr_pc (pc' := 92) rfl ?_)
          refine fr_callV (stk := []) (As := []) cl_11 (ok_Mo_faults p0) mt_Mo_faults rfl rfl sw_1378 sw_1380 sp_43 (by decide) (Nat.le_of_ble_eq_true rfl) dd_Mo_reads_92 (fun u22 => fr_to (pc' := 95) (env' := [some (sf_rv p0), none]) (stk' := []) rfl rfl rfl ?_)
          exact fr_ret rfl
    · refine fp_aload_n (i := 0) (r := p0) dd_Mo_reads_95 rfl rfl (fr_pc (pc' := 96) rfl ?_)
      refine fp_aload_n (i := 0) (r := p0) dd_Mo_reads_96 rfl rfl (fr_pc (pc' := 97) rfl ?_)
      refine fr_gI cl_11 21 (by decide) rfl sw_1093 dd_Mo_reads_97 (fun x24 => fr_pc (pc' := 100) rfl ?_)
      refine fr_pI cl_11 14 (by decide) rfl sw_1086 rfl ⟨rfl, rfl⟩ dd_Mo_reads_100 (fr_pc (pc' := 103) rfl ?_)
      refine fp_aload_n (i := 0) (r := p0) dd_Mo_reads_103 rfl rfl (fr_pc (pc' := 104) rfl ?_)
      refine fr_callV (stk := []) (As := []) cl_11 (ok_Mo_fine p0) mt_Mo_fine rfl rfl sw_1359 sw_1361 sp_39 (by decide) (Nat.le_of_ble_eq_true rfl) dd_Mo_reads_104 (fun x25 => fr_to (pc' := 107) (env' := [some (sf_rv p0), none]) (stk' := [.int x25]) rfl rfl rfl ?_)
      exact fr_zret (r := fun x26 => x26) (fun _ => rfl) rfl dd_Mo_reads_107
theorem mt_Mo_readsAs : sf_Mt ({ cls := "SplitFaresModel", name := "readsAs", desc := "(Z)Z" } : Jvm.MethodName) prog_13_method_54_code 2 (some .boolean) 1 := ⟨sw_1327, sw_12, ⟨by decide, by decide, by decide +kernel⟩, by decide⟩
theorem dd_Mo_readsAs_0 : decode prog_13_method_54_code 0 = .ok (.aload_n 0, 1) := by decide +kernel
theorem dd_Mo_readsAs_1 : decode prog_13_method_54_code 1 = .ok (.iload_n 1, 1) := by decide +kernel
theorem dd_Mo_readsAs_2 : decode prog_13_method_54_code 2 = .ok (.putfield 208, 3) := by decide +kernel
theorem dd_Mo_readsAs_5 : decode prog_13_method_54_code 5 = .ok (.aload_n 0, 1) := by decide +kernel
theorem dd_Mo_readsAs_6 : decode prog_13_method_54_code 6 = .ok (.iload_n 1, 1) := by decide +kernel
theorem dd_Mo_readsAs_7 : decode prog_13_method_54_code 7 = .ok (.ifCond .eq 8, 3) := by decide +kernel
theorem dd_Mo_readsAs_10 : decode prog_13_method_54_code 10 = .ok (.bipush 13, 2) := by decide +kernel
theorem dd_Mo_readsAs_12 : decode prog_13_method_54_code 12 = .ok (.goto 5, 3) := by decide +kernel
theorem dd_Mo_readsAs_15 : decode prog_13_method_54_code 15 = .ok (.bipush 7, 2) := by decide +kernel
theorem dd_Mo_readsAs_17 : decode prog_13_method_54_code 17 = .ok (.putfield 234, 3) := by decide +kernel
theorem dd_Mo_readsAs_20 : decode prog_13_method_54_code 20 = .ok (.aload_n 0, 1) := by decide +kernel
theorem dd_Mo_readsAs_21 : decode prog_13_method_54_code 21 = .ok (.iload_n 1, 1) := by decide +kernel
theorem dd_Mo_readsAs_22 : decode prog_13_method_54_code 22 = .ok (.ifCond .eq 8, 3) := by decide +kernel
theorem dd_Mo_readsAs_25 : decode prog_13_method_54_code 25 = .ok (.bipush 19, 2) := by decide +kernel
theorem dd_Mo_readsAs_27 : decode prog_13_method_54_code 27 = .ok (.goto 5, 3) := by decide +kernel
theorem dd_Mo_readsAs_30 : decode prog_13_method_54_code 30 = .ok (.bipush 13, 2) := by decide +kernel
theorem dd_Mo_readsAs_32 : decode prog_13_method_54_code 32 = .ok (.putfield 237, 3) := by decide +kernel
theorem dd_Mo_readsAs_35 : decode prog_13_method_54_code 35 = .ok (.aload_n 0, 1) := by decide +kernel
theorem dd_Mo_readsAs_36 : decode prog_13_method_54_code 36 = .ok (.invokevirtual 249, 3) := by decide +kernel
theorem dd_Mo_readsAs_39 : decode prog_13_method_54_code 39 = .ok (.ireturn, 1) := by decide +kernel
def jx_Mo_readsAs (p0 : Option Nat) (p1 : Int32) : sf_M (Int32) :=
  sf_bnd (sf_pZ 11 10 p0 p1) fun _ =>
  sf_bnd (α := (Int32)) (
  if p1 = 0 then (
  sf_ret (7 : Int32)
  ) else (
  sf_ret (13 : Int32)
  )
  ) (fun v2 =>
  sf_bnd (sf_pI 11 8 p0 v2) fun _ =>
  sf_bnd (α := (Int32)) (
  if p1 = 0 then (
  sf_ret (13 : Int32)
  ) else (
  sf_ret (19 : Int32)
  )
  ) (fun v4 =>
  sf_bnd (sf_pI 11 9 p0 v4) fun _ =>
  sf_bnd (sf_rc 11 p0 (jx_Mo_reads p0)) fun x5 =>
  sf_bnd (sf_rz x5) fun x6 =>
  sf_ret x6
  )
  )
set_option maxRecDepth 20000 in
set_option maxHeartbeats 4000000 in
theorem ok_Mo_readsAs (p0 : Option Nat) (p1 : Int32) : sf_Ok ({ cls := "SplitFaresModel", name := "readsAs", desc := "(Z)Z" } : Jvm.MethodName) prog_13_method_54_code 2 (some .boolean) 208 [sf_rv p0, .int p1] (jx_Mo_readsAs p0 p1) (fun r => some (.int r)) := by
  refine sf_Ok.of (env := [some (sf_rv p0), some (.int p1)]) (plainFor_of_name (by decide)) [false, false] (fun G => ⟨pk_r, pk_i, trivial⟩) (Nat.le_of_ble_eq_true rfl) rfl (fun X => ?_)
  unfold jx_Mo_readsAs
  refine fp_aload_n (i := 0) (r := p0) dd_Mo_readsAs_0 rfl rfl (fr_pc (pc' := 1) rfl ?_)
  refine fp_iload_n (i := 1) (x := p1) dd_Mo_readsAs_1 rfl rfl (fr_pc (pc' := 2) rfl ?_)
  refine fr_pZ cl_11 10 (by decide) rfl sw_1082 rfl rfl dd_Mo_readsAs_2 (fr_pc (pc' := 5) rfl ?_)
  refine fp_aload_n (i := 0) (r := p0) dd_Mo_readsAs_5 rfl rfl (fr_pc (pc' := 6) rfl ?_)
  refine fp_iload_n (i := 1) (x := p1) dd_Mo_readsAs_6 rfl rfl (fr_pc (pc' := 7) rfl ?_)
  refine fr_bnd (l1 := (fun (v2 : (Int32)) => sf_p 17 [some (sf_rv p0), some (.int p1)] [.int v2, sf_rv p0])) ?_ (fun v2 => ?_)
  · refine fr_if_eq (tgt := 15) dd_Mo_readsAs_7 rfl (fun _ => ?_) (fun _ => ?_)
    · refine fp_bipush (v := (7 : Int32)) dd_Mo_readsAs_15 (by decide) (fr_pc (pc' := 17) rfl ?_)
      exact fr_ret rfl
    · refine fr_pc (pc' := 10) rfl ?_
      refine fp_bipush (v := (13 : Int32)) dd_Mo_readsAs_10 (by decide) (fr_pc (pc' := 12) rfl ?_)
      refine fp_goto (tgt := 17) dd_Mo_readsAs_12 rfl ?_
      exact fr_ret rfl
  · refine fr_pI cl_11 8 (by decide) rfl sw_1080 rfl ⟨rfl, rfl⟩ dd_Mo_readsAs_17 (fr_pc (pc' := 20) rfl ?_)
    refine fp_aload_n (i := 0) (r := p0) dd_Mo_readsAs_20 rfl rfl (fr_pc (pc' := 21) rfl ?_)
    refine fp_iload_n (i := 1) (x := p1) dd_Mo_readsAs_21 rfl rfl (fr_pc (pc' := 22) rfl ?_)
    refine fr_bnd (l1 := (fun (v4 : (Int32)) => sf_p 32 [some (sf_rv p0), some (.int p1)] [.int v4, sf_rv p0])) ?_ (fun v4 => ?_)
    · refine fr_if_eq (tgt := 30) dd_Mo_readsAs_22 rfl (fun _ => ?_) (fun _ => ?_)
      · refine fp_bipush (v := (13 : Int32)) dd_Mo_readsAs_30 (by decide) (fr_pc (pc' := 32) rfl ?_)
        exact fr_ret rfl
      · refine fr_pc (pc' := 25) rfl ?_
        refine fp_bipush (v := (19 : Int32)) dd_Mo_readsAs_25 (by decide) (fr_pc (pc' := 27) rfl ?_)
        refine fp_goto (tgt := 32) dd_Mo_readsAs_27 rfl ?_
        exact fr_ret rfl
    · refine fr_pI cl_11 9 (by decide) rfl sw_1081 rfl ⟨rfl, rfl⟩ dd_Mo_readsAs_32 (fr_pc (pc' := 35) rfl ?_)
      refine fp_aload_n (i := 0) (r := p0) dd_Mo_readsAs_35 rfl rfl (fr_pc (pc' := 36) rfl ?_)
      refine fr_callV (stk := []) (As := []) cl_11 (ok_Mo_reads p0) mt_Mo_reads rfl rfl sw_1328 sw_1330 sp_33 (by decide) (Nat.le_of_ble_eq_true rfl) dd_Mo_readsAs_36 (fun x5 => fr_to (pc' := 39) (env' := [some (sf_rv p0), some (.int p1)]) (stk' := [.int x5]) rfl rfl rfl ?_)
      exact fr_zret (r := fun x6 => x6) (fun _ => rfl) rfl dd_Mo_readsAs_39
theorem mt_Mo_lays : sf_Mt ({ cls := "SplitFaresModel", name := "lays", desc := "(I)V" } : Jvm.MethodName) prog_13_method_55_code 3 none 1 := ⟨sw_1413, sw_12, ⟨by decide, by decide, by decide +kernel⟩, by decide⟩
theorem dd_Mo_lays_0 : decode prog_13_method_55_code 0 = .ok (.aload_n 0, 1) := by decide +kernel
theorem dd_Mo_lays_1 : decode prog_13_method_55_code 1 = .ok (.getfield 32, 3) := by decide +kernel
theorem dd_Mo_lays_4 : decode prog_13_method_55_code 4 = .ok (.sipush 231, 3) := by decide +kernel
theorem dd_Mo_lays_7 : decode prog_13_method_55_code 7 = .ok (.iload_n 1, 1) := by decide +kernel
theorem dd_Mo_lays_8 : decode prog_13_method_55_code 8 = .ok (.iadd, 1) := by decide +kernel
theorem dd_Mo_lays_9 : decode prog_13_method_55_code 9 = .ok (.aload_n 0, 1) := by decide +kernel
theorem dd_Mo_lays_10 : decode prog_13_method_55_code 10 = .ok (.getfield 162, 3) := by decide +kernel
theorem dd_Mo_lays_13 : decode prog_13_method_55_code 13 = .ok (.iastore, 1) := by decide +kernel
theorem dd_Mo_lays_14 : decode prog_13_method_55_code 14 = .ok (.iconst 0, 1) := by decide +kernel
theorem dd_Mo_lays_15 : decode prog_13_method_55_code 15 = .ok (.istore_n 2, 1) := by decide +kernel
theorem dd_Mo_lays_16 : decode prog_13_method_55_code 16 = .ok (.iload_n 2, 1) := by decide +kernel
theorem dd_Mo_lays_17 : decode prog_13_method_55_code 17 = .ok (.aload_n 0, 1) := by decide +kernel
theorem dd_Mo_lays_18 : decode prog_13_method_55_code 18 = .ok (.getfield 162, 3) := by decide +kernel
theorem dd_Mo_lays_21 : decode prog_13_method_55_code 21 = .ok (.if_icmp .ge 53, 3) := by decide +kernel
theorem dd_Mo_lays_24 : decode prog_13_method_55_code 24 = .ok (.aload_n 0, 1) := by decide +kernel
theorem dd_Mo_lays_25 : decode prog_13_method_55_code 25 = .ok (.getfield 32, 3) := by decide +kernel
theorem dd_Mo_lays_28 : decode prog_13_method_55_code 28 = .ok (.sipush 238, 3) := by decide +kernel
theorem dd_Mo_lays_31 : decode prog_13_method_55_code 31 = .ok (.sipush 400, 3) := by decide +kernel
theorem dd_Mo_lays_34 : decode prog_13_method_55_code 34 = .ok (.iload_n 1, 1) := by decide +kernel
theorem dd_Mo_lays_35 : decode prog_13_method_55_code 35 = .ok (.imul, 1) := by decide +kernel
theorem dd_Mo_lays_36 : decode prog_13_method_55_code 36 = .ok (.iadd, 1) := by decide +kernel
theorem dd_Mo_lays_37 : decode prog_13_method_55_code 37 = .ok (.iload_n 2, 1) := by decide +kernel
theorem dd_Mo_lays_38 : decode prog_13_method_55_code 38 = .ok (.iadd, 1) := by decide +kernel
theorem dd_Mo_lays_39 : decode prog_13_method_55_code 39 = .ok (.aload_n 0, 1) := by decide +kernel
theorem dd_Mo_lays_40 : decode prog_13_method_55_code 40 = .ok (.getfield 58, 3) := by decide +kernel
theorem dd_Mo_lays_43 : decode prog_13_method_55_code 43 = .ok (.iload_n 2, 1) := by decide +kernel
theorem dd_Mo_lays_44 : decode prog_13_method_55_code 44 = .ok (.iaload, 1) := by decide +kernel
theorem dd_Mo_lays_45 : decode prog_13_method_55_code 45 = .ok (.iastore, 1) := by decide +kernel
theorem dd_Mo_lays_46 : decode prog_13_method_55_code 46 = .ok (.aload_n 0, 1) := by decide +kernel
theorem dd_Mo_lays_47 : decode prog_13_method_55_code 47 = .ok (.getfield 32, 3) := by decide +kernel
theorem dd_Mo_lays_50 : decode prog_13_method_55_code 50 = .ok (.sipush 3038, 3) := by decide +kernel
theorem dd_Mo_lays_53 : decode prog_13_method_55_code 53 = .ok (.sipush 400, 3) := by decide +kernel
theorem dd_Mo_lays_56 : decode prog_13_method_55_code 56 = .ok (.iload_n 1, 1) := by decide +kernel
theorem dd_Mo_lays_57 : decode prog_13_method_55_code 57 = .ok (.imul, 1) := by decide +kernel
theorem dd_Mo_lays_58 : decode prog_13_method_55_code 58 = .ok (.iadd, 1) := by decide +kernel
theorem dd_Mo_lays_59 : decode prog_13_method_55_code 59 = .ok (.iload_n 2, 1) := by decide +kernel
theorem dd_Mo_lays_60 : decode prog_13_method_55_code 60 = .ok (.iadd, 1) := by decide +kernel
theorem dd_Mo_lays_61 : decode prog_13_method_55_code 61 = .ok (.aload_n 0, 1) := by decide +kernel
theorem dd_Mo_lays_62 : decode prog_13_method_55_code 62 = .ok (.getfield 61, 3) := by decide +kernel
theorem dd_Mo_lays_65 : decode prog_13_method_55_code 65 = .ok (.iload_n 2, 1) := by decide +kernel
theorem dd_Mo_lays_66 : decode prog_13_method_55_code 66 = .ok (.iaload, 1) := by decide +kernel
theorem dd_Mo_lays_67 : decode prog_13_method_55_code 67 = .ok (.iastore, 1) := by decide +kernel
theorem dd_Mo_lays_68 : decode prog_13_method_55_code 68 = .ok (.iinc 2 1, 3) := by decide +kernel
theorem dd_Mo_lays_71 : decode prog_13_method_55_code 71 = .ok (.goto (-55), 3) := by decide +kernel
theorem dd_Mo_lays_74 : decode prog_13_method_55_code 74 = .ok (.return_, 1) := by decide +kernel
def jx_Mo_lays (p0 : Option Nat) (p1 : Int32) : sf_M (Unit) :=
  sf_bnd (sf_gR 11 2 p0) fun x1 =>
  sf_bnd (sf_gI 11 18 p0) fun x2 =>
  sf_bnd (sf_sI 0 x1 ((231 : Int32) + p1) x2) fun _ =>
  sf_bnd (sf_loop (β := (Int32)) (γ := (Unit)) (fun b3 =>
  sf_bnd (sf_gI 11 18 p0) fun x4 =>
  if x4 ≤ b3 then (
  sf_ret (.inr ())
  ) else (
  sf_bnd (sf_gR 11 2 p0) fun x6 =>
  sf_bnd (sf_gR 11 15 p0) fun x7 =>
  sf_bnd (sf_aI 0 x7 b3) fun x8 =>
  sf_bnd (sf_sI 0 x6 (((238 : Int32) + ((400 : Int32) * p1)) + b3) x8) fun _ =>
  sf_bnd (sf_gR 11 2 p0) fun x9 =>
  sf_bnd (sf_gR 11 16 p0) fun x10 =>
  sf_bnd (sf_aI 0 x10 b3) fun x11 =>
  sf_bnd (sf_sI 0 x9 (((3038 : Int32) + ((400 : Int32) * p1)) + b3) x11) fun _ =>
  sf_bnd (sf_ret (b3 + (1 : Int32))) fun y12 =>
  sf_ret (.inl y12)
  )
  ) sf_fuel (0 : Int32)) (fun e13 =>
  sf_ret ()
  )
set_option maxRecDepth 20000 in
set_option maxHeartbeats 4000000 in
theorem ok_Mo_lays (p0 : Option Nat) (p1 : Int32) : sf_Ok ({ cls := "SplitFaresModel", name := "lays", desc := "(I)V" } : Jvm.MethodName) prog_13_method_55_code 3 none 0 [sf_rv p0, .int p1] (jx_Mo_lays p0 p1) (fun _ => none) := by
  refine sf_Ok.of (env := [some (sf_rv p0), some (.int p1), none]) (plainFor_of_name (by decide)) [false, false] (fun G => ⟨pk_r, pk_i, trivial⟩) (Nat.le_of_ble_eq_true rfl) rfl (fun X => ?_)
  unfold jx_Mo_lays
  refine fp_aload_n (i := 0) (r := p0) dd_Mo_lays_0 rfl rfl (fr_pc (pc' := 1) rfl ?_)
  refine fr_gR cl_11 2 (by decide) rfl sw_1074 dd_Mo_lays_1 (fun x1 => fr_pc (pc' := 4) rfl ?_)
  refine fp_sipush (v := (231 : Int32)) dd_Mo_lays_4 (by decide) (fr_pc (pc' := 7) rfl ?_)
  refine fp_iload_n (i := 1) (x := p1) dd_Mo_lays_7 rfl rfl (fr_pc (pc' := 8) rfl ?_)
  refine fp_iadd dd_Mo_lays_8 (fr_pc (pc' := 9) rfl ?_)
  refine fp_aload_n (i := 0) (r := p0) dd_Mo_lays_9 rfl rfl (fr_pc (pc' := 10) rfl ?_)
  refine fr_gI cl_11 18 (by decide) rfl sw_1090 dd_Mo_lays_10 (fun x2 => fr_pc (pc' := 13) rfl ?_)
  refine fr_sI0 dd_Mo_lays_13 (fr_pc (pc' := 14) rfl ?_)
  refine fp_iconst (v := (0 : Int32)) dd_Mo_lays_14 (by decide) (fr_pc (pc' := 15) rfl ?_)
  refine fp_istore_n (i := 2) dd_Mo_lays_15 rfl (Nat.le_of_ble_eq_true rfl) (fun _ => c1_i rfl) (fr_to (pc' := 16) (env' := [some (sf_rv p0), some (.int p1), some (.int (0 : Int32))]) (stk' := []) rfl rfl rfl ?_)
  refine fr_to (pc' := 16) (env' := [some (sf_rv p0), some (.int p1), some (.int (0 : Int32))]) (stk' := []) rfl rfl rfl ?_
  refine fr_bnd (l1 := (fun (e13 : (Unit)) => sf_p 74 [some (sf_rv p0), some (.int p1), none] [])) (fr_loop (Lb := (fun (b3 : (Int32)) => sf_p 16 [some (sf_rv p0), some (.int p1), some (.int b3)] [])) (fun b3 => ?_) _ _) (fun e13 => ?_)
  · refine fp_iload_n (i := 2) (x := b3) dd_Mo_lays_16 rfl rfl (fr_pc (pc' := 17) rfl ?_)
    refine fp_aload_n (i := 0) (r := p0) dd_Mo_lays_17 rfl rfl (fr_pc (pc' := 18) rfl ?_)
    refine fr_gI cl_11 18 (by decide) rfl sw_1090 dd_Mo_lays_18 (fun x4 => fr_pc (pc' := 21) rfl ?_)
    refine fr_icmp_ge (tgt := 74) dd_Mo_lays_21 rfl (fun _ => ?_) (fun _ => ?_)
    · refine fr_wk [true, true, false] ?_
      exact fr_ret rfl
    · refine fr_pc (pc' := 24) rfl ?_
      refine fp_aload_n (i := 0) (r := p0) dd_Mo_lays_24 rfl rfl (fr_pc (pc' := 25) rfl ?_)
      refine fr_gR cl_11 2 (by decide) rfl sw_1074 dd_Mo_lays_25 (fun x6 => fr_pc (pc' := 28) rfl ?_)
      refine fp_sipush (v := (238 : Int32)) dd_Mo_lays_28 (by decide) (fr_pc (pc' := 31) rfl ?_)
      refine fp_sipush (v := (400 : Int32)) dd_Mo_lays_31 (by decide) (fr_pc (pc' := 34) rfl ?_)
      refine fp_iload_n (i := 1) (x := p1) dd_Mo_lays_34 rfl rfl (fr_pc (pc' := 35) rfl ?_)
      refine fp_imul dd_Mo_lays_35 (fr_pc (pc' := 36) rfl ?_)
      refine fp_iadd dd_Mo_lays_36 (fr_pc (pc' := 37) rfl ?_)
      refine fp_iload_n (i := 2) (x := b3) dd_Mo_lays_37 rfl rfl (fr_pc (pc' := 38) rfl ?_)
      refine fp_iadd dd_Mo_lays_38 (fr_pc (pc' := 39) rfl ?_)
      refine fp_aload_n (i := 0) (r := p0) dd_Mo_lays_39 rfl rfl (fr_pc (pc' := 40) rfl ?_)
      refine fr_gR cl_11 15 (by decide) rfl sw_1087 dd_Mo_lays_40 (fun x7 => fr_pc (pc' := 43) rfl ?_)
      refine fp_iload_n (i := 2) (x := b3) dd_Mo_lays_43 rfl rfl (fr_pc (pc' := 44) rfl ?_)
      refine fr_aI0 dd_Mo_lays_44 (fun x8 => fr_pc (pc' := 45) rfl ?_)
      refine fr_sI0 dd_Mo_lays_45 (fr_pc (pc' := 46) rfl ?_)
      refine fp_aload_n (i := 0) (r := p0) dd_Mo_lays_46 rfl rfl (fr_pc (pc' := 47) rfl ?_)
      refine fr_gR cl_11 2 (by decide) rfl sw_1074 dd_Mo_lays_47 (fun x9 => fr_pc (pc' := 50) rfl ?_)
      refine fp_sipush (v := (3038 : Int32)) dd_Mo_lays_50 (by decide) (fr_pc (pc' := 53) rfl ?_)
      refine fp_sipush (v := (400 : Int32)) dd_Mo_lays_53 (by decide) (fr_pc (pc' := 56) rfl ?_)
      refine fp_iload_n (i := 1) (x := p1) dd_Mo_lays_56 rfl rfl (fr_pc (pc' := 57) rfl ?_)
      refine fp_imul dd_Mo_lays_57 (fr_pc (pc' := 58) rfl ?_)
      refine fp_iadd dd_Mo_lays_58 (fr_pc (pc' := 59) rfl ?_)
      refine fp_iload_n (i := 2) (x := b3) dd_Mo_lays_59 rfl rfl (fr_pc (pc' := 60) rfl ?_)
      refine fp_iadd dd_Mo_lays_60 (fr_pc (pc' := 61) rfl ?_)
      refine fp_aload_n (i := 0) (r := p0) dd_Mo_lays_61 rfl rfl (fr_pc (pc' := 62) rfl ?_)
      refine fr_gR cl_11 16 (by decide) rfl sw_1088 dd_Mo_lays_62 (fun x10 => fr_pc (pc' := 65) rfl ?_)
      refine fp_iload_n (i := 2) (x := b3) dd_Mo_lays_65 rfl rfl (fr_pc (pc' := 66) rfl ?_)
      refine fr_aI0 dd_Mo_lays_66 (fun x11 => fr_pc (pc' := 67) rfl ?_)
      refine fr_sI0 dd_Mo_lays_67 (fr_pc (pc' := 68) rfl ?_)
      refine fr_niinc (i := 2) (x := b3) (w := (1 : Int32)) dd_Mo_lays_68 rfl (by decide) (Nat.le_of_ble_eq_true rfl) (fun _ => c1_i rfl) (fun y12 => fr_to (pc' := 71) (env' := [some (sf_rv p0), some (.int p1), some (.int y12)]) (stk' := []) rfl rfl rfl ?_)
      refine fp_goto (tgt := 16) dd_Mo_lays_71 rfl ?_
      exact fr_ret rfl
  · exact fr_vret rfl rfl dd_Mo_lays_74
theorem mt_Mo_law : sf_Mt ({ cls := "SplitFaresModel", name := "law", desc := "()I" } : Jvm.MethodName) prog_13_method_56_code 1 (some .int) 0 := ⟨sw_1323, sw_12, ⟨by decide, by decide, by decide +kernel⟩, by decide⟩
theorem dd_Mo_law_0 : decode prog_13_method_56_code 0 = .ok (.aload_n 0, 1) := by decide +kernel
theorem dd_Mo_law_1 : decode prog_13_method_56_code 1 = .ok (.getfield 32, 3) := by decide +kernel
theorem dd_Mo_law_4 : decode prog_13_method_56_code 4 = .ok (.sipush 229, 3) := by decide +kernel
theorem dd_Mo_law_7 : decode prog_13_method_56_code 7 = .ok (.iaload, 1) := by decide +kernel
theorem dd_Mo_law_8 : decode prog_13_method_56_code 8 = .ok (.bipush 6, 2) := by decide +kernel
theorem dd_Mo_law_10 : decode prog_13_method_56_code 10 = .ok (.if_icmp .ne 15, 3) := by decide +kernel
theorem dd_Mo_law_13 : decode prog_13_method_56_code 13 = .ok (.aload_n 0, 1) := by decide +kernel
theorem dd_Mo_law_14 : decode prog_13_method_56_code 14 = .ok (.iconst 0, 1) := by decide +kernel
theorem dd_Mo_law_15 : decode prog_13_method_56_code 15 = .ok (.putfield 156, 3) := by decide +kernel
theorem dd_Mo_law_18 : decode prog_13_method_56_code 18 = .ok (.aload_n 0, 1) := by decide +kernel
theorem dd_Mo_law_19 : decode prog_13_method_56_code 19 = .ok (.bipush (-5), 2) := by decide +kernel
theorem dd_Mo_law_21 : decode prog_13_method_56_code 21 = .ok (.invokevirtual 116, 3) := by decide +kernel
theorem dd_Mo_law_24 : decode prog_13_method_56_code 24 = .ok (.ireturn, 1) := by decide +kernel
theorem dd_Mo_law_25 : decode prog_13_method_56_code 25 = .ok (.aload_n 0, 1) := by decide +kernel
theorem dd_Mo_law_26 : decode prog_13_method_56_code 26 = .ok (.iconst 0, 1) := by decide +kernel
theorem dd_Mo_law_27 : decode prog_13_method_56_code 27 = .ok (.invokevirtual 252, 3) := by decide +kernel
theorem dd_Mo_law_30 : decode prog_13_method_56_code 30 = .ok (.ifCond .ne 10, 3) := by decide +kernel
theorem dd_Mo_law_33 : decode prog_13_method_56_code 33 = .ok (.aload_n 0, 1) := by decide +kernel
theorem dd_Mo_law_34 : decode prog_13_method_56_code 34 = .ok (.bipush (-6), 2) := by decide +kernel
theorem dd_Mo_law_36 : decode prog_13_method_56_code 36 = .ok (.invokevirtual 116, 3) := by decide +kernel
theorem dd_Mo_law_39 : decode prog_13_method_56_code 39 = .ok (.ireturn, 1) := by decide +kernel
theorem dd_Mo_law_40 : decode prog_13_method_56_code 40 = .ok (.aload_n 0, 1) := by decide +kernel
theorem dd_Mo_law_41 : decode prog_13_method_56_code 41 = .ok (.aload_n 0, 1) := by decide +kernel
theorem dd_Mo_law_42 : decode prog_13_method_56_code 42 = .ok (.getfield 32, 3) := by decide +kernel
theorem dd_Mo_law_45 : decode prog_13_method_56_code 45 = .ok (.sipush 229, 3) := by decide +kernel
theorem dd_Mo_law_48 : decode prog_13_method_56_code 48 = .ok (.iaload, 1) := by decide +kernel
theorem dd_Mo_law_49 : decode prog_13_method_56_code 49 = .ok (.invokevirtual 256, 3) := by decide +kernel
theorem dd_Mo_law_52 : decode prog_13_method_56_code 52 = .ok (.aload_n 0, 1) := by decide +kernel
theorem dd_Mo_law_53 : decode prog_13_method_56_code 53 = .ok (.getfield 32, 3) := by decide +kernel
theorem dd_Mo_law_56 : decode prog_13_method_56_code 56 = .ok (.sipush 229, 3) := by decide +kernel
theorem dd_Mo_law_59 : decode prog_13_method_56_code 59 = .ok (.dup2, 1) := by decide +kernel
theorem dd_Mo_law_60 : decode prog_13_method_56_code 60 = .ok (.iaload, 1) := by decide +kernel
theorem dd_Mo_law_61 : decode prog_13_method_56_code 61 = .ok (.iconst 1, 1) := by decide +kernel
theorem dd_Mo_law_62 : decode prog_13_method_56_code 62 = .ok (.iadd, 1) := by decide +kernel
theorem dd_Mo_law_63 : decode prog_13_method_56_code 63 = .ok (.iastore, 1) := by decide +kernel
theorem dd_Mo_law_64 : decode prog_13_method_56_code 64 = .ok (.aload_n 0, 1) := by decide +kernel
theorem dd_Mo_law_65 : decode prog_13_method_56_code 65 = .ok (.aload_n 0, 1) := by decide +kernel
theorem dd_Mo_law_66 : decode prog_13_method_56_code 66 = .ok (.getfield 32, 3) := by decide +kernel
theorem dd_Mo_law_69 : decode prog_13_method_56_code 69 = .ok (.sipush 229, 3) := by decide +kernel
theorem dd_Mo_law_72 : decode prog_13_method_56_code 72 = .ok (.iaload, 1) := by decide +kernel
theorem dd_Mo_law_73 : decode prog_13_method_56_code 73 = .ok (.iconst 1, 1) := by decide +kernel
theorem dd_Mo_law_74 : decode prog_13_method_56_code 74 = .ok (.isub, 1) := by decide +kernel
theorem dd_Mo_law_75 : decode prog_13_method_56_code 75 = .ok (.invokevirtual 14, 3) := by decide +kernel
theorem dd_Mo_law_78 : decode prog_13_method_56_code 78 = .ok (.ireturn, 1) := by decide +kernel
def jx_Mo_law (p0 : Option Nat) : sf_M (Int32) :=
  sf_bnd (sf_gR 11 2 p0) fun x1 =>
  sf_bnd (sf_aI 0 x1 (229 : Int32)) fun x2 =>
  if x2 = (6 : Int32) then (
  sf_bnd (sf_pI 11 13 p0 (0 : Int32)) fun _ =>
  sf_bnd (sf_rc 11 p0 (jx_Mo_refuses p0 (-5 : Int32))) fun x4 =>
  sf_ret x4
  ) else (
  sf_bnd (sf_rc 11 p0 (jx_Mo_readsAs p0 (0 : Int32))) fun x5 =>
  if x5 = 0 then (
  sf_bnd (sf_rc 11 p0 (jx_Mo_refuses p0 (-6 : Int32))) fun x7 =>
  sf_ret x7
  ) else (
  sf_bnd (sf_gR 11 2 p0) fun x8 =>
  sf_bnd (sf_aI 0 x8 (229 : Int32)) fun x9 =>
  sf_bnd (sf_rc 11 p0 (jx_Mo_lays p0 x9)) fun _ =>
  sf_bnd (sf_gR 11 2 p0) fun x11 =>
  sf_bnd (sf_aI 0 x11 (229 : Int32)) fun x12 =>
  sf_bnd (sf_sI 0 x11 (229 : Int32) (x12 + (1 : Int32))) fun _ =>
  sf_bnd (sf_gR 11 2 p0) fun x13 =>
  sf_bnd (sf_aI 0 x13 (229 : Int32)) fun x14 =>
  sf_bnd (sf_rc 11 p0 (jx_Mo_good p0 (x14 - (1 : Int32)))) fun x15 =>
  sf_ret x15
  )
  )
set_option maxRecDepth 20000 in
set_option maxHeartbeats 4000000 in
theorem ok_Mo_law (p0 : Option Nat) : sf_Ok ({ cls := "SplitFaresModel", name := "law", desc := "()I" } : Jvm.MethodName) prog_13_method_56_code 1 (some .int) 209 [sf_rv p0] (jx_Mo_law p0) (fun r => some (.int r)) := by
  refine sf_Ok.of (env := [some (sf_rv p0)]) (plainFor_of_name (by decide)) [false] (fun G => ⟨pk_r, trivial⟩) (Nat.le_of_ble_eq_true rfl) rfl (fun X => ?_)
  unfold jx_Mo_law
  refine fp_aload_n (i := 0) (r := p0) dd_Mo_law_0 rfl rfl (fr_pc (pc' := 1) rfl ?_)
  refine fr_gR cl_11 2 (by decide) rfl sw_1074 dd_Mo_law_1 (fun x1 => fr_pc (pc' := 4) rfl ?_)
  refine fp_sipush (v := (229 : Int32)) dd_Mo_law_4 (by decide) (fr_pc (pc' := 7) rfl ?_)
  refine fr_aI0 dd_Mo_law_7 (fun x2 => fr_pc (pc' := 8) rfl ?_)
  refine fp_bipush (v := (6 : Int32)) dd_Mo_law_8 (by decide) (fr_pc (pc' := 10) rfl ?_)
  refine fr_icmp_ne (tgt := 25) dd_Mo_law_10 rfl (fun _ => ?_) (fun _ => ?_)
  · refine fr_pc (pc' := 13) rfl ?_
    refine fp_aload_n (i := 0) (r := p0) dd_Mo_law_13 rfl rfl (fr_pc (pc' := 14) rfl ?_)
    refine fp_iconst (v := (0 : Int32)) dd_Mo_law_14 (by decide) (fr_pc (pc' := 15) rfl ?_)
    refine fr_pI cl_11 13 (by decide) rfl sw_1085 rfl ⟨rfl, rfl⟩ dd_Mo_law_15 (fr_pc (pc' := 18) rfl ?_)
    refine fp_aload_n (i := 0) (r := p0) dd_Mo_law_18 rfl rfl (fr_pc (pc' := 19) rfl ?_)
    refine fp_bipush (v := (-5 : Int32)) dd_Mo_law_19 (by decide) (fr_pc (pc' := 21) rfl ?_)
    refine fr_callV (stk := []) (As := [.int (-5 : Int32)]) cl_11 (ok_Mo_refuses p0 (-5 : Int32)) mt_Mo_refuses rfl rfl sw_1240 sw_1242 sp_27 (by decide) (Nat.le_of_ble_eq_true rfl) dd_Mo_law_21 (fun x4 => fr_to (pc' := 24) (env' := [some (sf_rv p0)]) (stk' := [.int x4]) rfl rfl rfl ?_)
    exact fr_iret (v := x4) rfl rfl dd_Mo_law_24
  · refine fp_aload_n (i := 0) (r := p0) dd_Mo_law_25 rfl rfl (fr_pc (pc' := 26) rfl ?_)
    refine fp_iconst (v := (0 : Int32)) dd_Mo_law_26 (by decide) (fr_pc (pc' := 27) rfl ?_)
    refine fr_callV (stk := []) (As := [.int (0 : Int32)]) cl_11 (ok_Mo_readsAs p0 (0 : Int32)) mt_Mo_readsAs rfl rfl sw_1324 sw_1326 sp_32 (by decide) (Nat.le_of_ble_eq_true rfl) dd_Mo_law_27 (fun x5 => fr_to (pc' := 30) (env' := [some (sf_rv p0)]) (stk' := [.int x5]) rfl rfl rfl ?_)
    refine fr_if_ne (tgt := 40) dd_Mo_law_30 rfl (fun _ => ?_) (fun _ => ?_)
    · refine fr_pc (pc' := 33) rfl ?_
      refine fp_aload_n (i := 0) (r := p0) dd_Mo_law_33 rfl rfl (fr_pc (pc' := 34) rfl ?_)
      refine fp_bipush (v := (-6 : Int32)) dd_Mo_law_34 (by decide) (fr_pc (pc' := 36) rfl ?_)
      refine fr_callV (stk := []) (As := [.int (-6 : Int32)]) cl_11 (ok_Mo_refuses p0 (-6 : Int32)) mt_Mo_refuses rfl rfl sw_1240 sw_1242 sp_27 (by decide) (Nat.le_of_ble_eq_true rfl) dd_Mo_law_36 (fun x7 => fr_to (pc' := 39) (env' := [some (sf_rv p0)]) (stk' := [.int x7]) rfl rfl rfl ?_)
      exact fr_iret (v := x7) rfl rfl dd_Mo_law_39
    · refine fp_aload_n (i := 0) (r := p0) dd_Mo_law_40 rfl rfl (fr_pc (pc' := 41) rfl ?_)
      refine fp_aload_n (i := 0) (r := p0) dd_Mo_law_41 rfl rfl (fr_pc (pc' := 42) rfl ?_)
      refine fr_gR cl_11 2 (by decide) rfl sw_1074 dd_Mo_law_42 (fun x8 => fr_pc (pc' := 45) rfl ?_)
      refine fp_sipush (v := (229 : Int32)) dd_Mo_law_45 (by decide) (fr_pc (pc' := 48) rfl ?_)
      refine fr_aI0 dd_Mo_law_48 (fun x9 => fr_pc (pc' := 49) rfl ?_)
      refine fr_callV (stk := []) (As := [.int x9]) cl_11 (ok_Mo_lays p0 x9) mt_Mo_lays rfl rfl sw_1410 sw_1412 sp_51 (by decide) (Nat.le_of_ble_eq_true rfl) dd_Mo_law_49 (fun u10 => fr_to (pc' := 52) (env' := [some (sf_rv p0)]) (stk' := []) rfl rfl rfl ?_)
      refine fp_aload_n (i := 0) (r := p0) dd_Mo_law_52 rfl rfl (fr_pc (pc' := 53) rfl ?_)
      refine fr_gR cl_11 2 (by decide) rfl sw_1074 dd_Mo_law_53 (fun x11 => fr_pc (pc' := 56) rfl ?_)
      refine fp_sipush (v := (229 : Int32)) dd_Mo_law_56 (by decide) (fr_pc (pc' := 59) rfl ?_)
      refine fp_dup2 dd_Mo_law_59 (fr_pc (pc' := 60) rfl ?_)
      refine fr_aI0 dd_Mo_law_60 (fun x12 => fr_pc (pc' := 61) rfl ?_)
      refine fp_iconst (v := (1 : Int32)) dd_Mo_law_61 (by decide) (fr_pc (pc' := 62) rfl ?_)
      refine fp_iadd dd_Mo_law_62 (fr_pc (pc' := 63) rfl ?_)
      refine fr_sI0 dd_Mo_law_63 (fr_pc (pc' := 64) rfl ?_)
      refine fp_aload_n (i := 0) (r := p0) dd_Mo_law_64 rfl rfl (fr_pc (pc' := 65) rfl ?_)
      refine fp_aload_n (i := 0) (r := p0) dd_Mo_law_65 rfl rfl (fr_pc (pc' := 66) rfl ?_)
      refine fr_gR cl_11 2 (by decide) rfl sw_1074 dd_Mo_law_66 (fun x13 => fr_pc (pc' := 69) rfl ?_)
      refine fp_sipush (v := (229 : Int32)) dd_Mo_law_69 (by decide) (fr_pc (pc' := 72) rfl ?_)
      refine fr_aI0 dd_Mo_law_72 (fun x14 => fr_pc (pc' := 73) rfl ?_)
      refine fp_iconst (v := (1 : Int32)) dd_Mo_law_73 (by decide) (fr_pc (pc' := 74) rfl ?_)
      refine fp_isub dd_Mo_law_74 (fr_pc (pc' := 75) rfl ?_)
      refine fr_callV (stk := []) (As := [.int (x14 - (1 : Int32))]) cl_11 (ok_Mo_good p0 (x14 - (1 : Int32))) mt_Mo_good rfl rfl sw_1244 sw_1246 sp_28 (by decide) (Nat.le_of_ble_eq_true rfl) dd_Mo_law_75 (fun x15 => fr_to (pc' := 78) (env' := [some (sf_rv p0)]) (stk' := [.int x15]) rfl rfl rfl ?_)
      exact fr_iret (v := x15) rfl rfl dd_Mo_law_78
theorem mt_Mo_fault : sf_Mt ({ cls := "SplitFaresModel", name := "fault", desc := "()I" } : Jvm.MethodName) prog_13_method_57_code 1 (some .int) 0 := ⟨sw_1417, sw_12, ⟨by decide, by decide, by decide +kernel⟩, by decide⟩
theorem dd_Mo_fault_0 : decode prog_13_method_57_code 0 = .ok (.aload_n 0, 1) := by decide +kernel
theorem dd_Mo_fault_1 : decode prog_13_method_57_code 1 = .ok (.getfield 55, 3) := by decide +kernel
theorem dd_Mo_fault_4 : decode prog_13_method_57_code 4 = .ok (.ireturn, 1) := by decide +kernel
def jx_Mo_fault (p0 : Option Nat) : sf_M (Int32) :=
  sf_bnd (sf_gI 11 14 p0) fun x1 =>
  sf_ret x1
set_option maxRecDepth 20000 in
set_option maxHeartbeats 4000000 in
theorem ok_Mo_fault (p0 : Option Nat) : sf_Ok ({ cls := "SplitFaresModel", name := "fault", desc := "()I" } : Jvm.MethodName) prog_13_method_57_code 1 (some .int) 0 [sf_rv p0] (jx_Mo_fault p0) (fun r => some (.int r)) := by
  refine sf_Ok.of (env := [some (sf_rv p0)]) (plainFor_of_name (by decide)) [false] (fun G => ⟨pk_r, trivial⟩) (Nat.le_of_ble_eq_true rfl) rfl (fun X => ?_)
  unfold jx_Mo_fault
  refine fp_aload_n (i := 0) (r := p0) dd_Mo_fault_0 rfl rfl (fr_pc (pc' := 1) rfl ?_)
  refine fr_gI cl_11 14 (by decide) rfl sw_1086 dd_Mo_fault_1 (fun x1 => fr_pc (pc' := 4) rfl ?_)
  exact fr_iret (v := x1) rfl rfl dd_Mo_fault_4
theorem mt_Mo_isLaw : sf_Mt ({ cls := "SplitFaresModel", name := "isLaw", desc := "(I)Z" } : Jvm.MethodName) prog_13_method_58_code 2 (some .boolean) 1 := ⟨sw_1425, sw_12, ⟨by decide, by decide, by decide +kernel⟩, by decide⟩
theorem dd_Mo_isLaw_0 : decode prog_13_method_58_code 0 = .ok (.iload_n 1, 1) := by decide +kernel
theorem dd_Mo_isLaw_1 : decode prog_13_method_58_code 1 = .ok (.iconst (-1), 1) := by decide +kernel
theorem dd_Mo_isLaw_2 : decode prog_13_method_58_code 2 = .ok (.aload_n 0, 1) := by decide +kernel
theorem dd_Mo_isLaw_3 : decode prog_13_method_58_code 3 = .ok (.getfield 32, 3) := by decide +kernel
theorem dd_Mo_isLaw_6 : decode prog_13_method_58_code 6 = .ok (.sipush 229, 3) := by decide +kernel
theorem dd_Mo_isLaw_9 : decode prog_13_method_58_code 9 = .ok (.iaload, 1) := by decide +kernel
theorem dd_Mo_isLaw_10 : decode prog_13_method_58_code 10 = .ok (.iconst 1, 1) := by decide +kernel
theorem dd_Mo_isLaw_11 : decode prog_13_method_58_code 11 = .ok (.isub, 1) := by decide +kernel
theorem dd_Mo_isLaw_12 : decode prog_13_method_58_code 12 = .ok (.invokestatic 18, 3) := by decide +kernel
theorem dd_Mo_isLaw_15 : decode prog_13_method_58_code 15 = .ok (.ireturn, 1) := by decide +kernel
def jx_Mo_isLaw (p0 : Option Nat) (p1 : Int32) : sf_M (Int32) :=
  sf_bnd (sf_gR 11 2 p0) fun x1 =>
  sf_bnd (sf_aI 0 x1 (229 : Int32)) fun x2 =>
  sf_bnd (jx_Mo_lies p1 (-1 : Int32) (x2 - (1 : Int32))) fun x3 =>
  sf_bnd (sf_rz x3) fun x4 =>
  sf_ret x4
set_option maxRecDepth 20000 in
set_option maxHeartbeats 4000000 in
theorem ok_Mo_isLaw (p0 : Option Nat) (p1 : Int32) : sf_Ok ({ cls := "SplitFaresModel", name := "isLaw", desc := "(I)Z" } : Jvm.MethodName) prog_13_method_58_code 2 (some .boolean) 1 [sf_rv p0, .int p1] (jx_Mo_isLaw p0 p1) (fun r => some (.int r)) := by
  refine sf_Ok.of (env := [some (sf_rv p0), some (.int p1)]) (plainFor_of_name (by decide)) [false, false] (fun G => ⟨pk_r, pk_i, trivial⟩) (Nat.le_of_ble_eq_true rfl) rfl (fun X => ?_)
  unfold jx_Mo_isLaw
  refine fp_iload_n (i := 1) (x := p1) dd_Mo_isLaw_0 rfl rfl (fr_pc (pc' := 1) rfl ?_)
  refine fp_iconst (v := (-1 : Int32)) dd_Mo_isLaw_1 (by decide) (fr_pc (pc' := 2) rfl ?_)
  refine fp_aload_n (i := 0) (r := p0) dd_Mo_isLaw_2 rfl rfl (fr_pc (pc' := 3) rfl ?_)
  refine fr_gR cl_11 2 (by decide) rfl sw_1074 dd_Mo_isLaw_3 (fun x1 => fr_pc (pc' := 6) rfl ?_)
  refine fp_sipush (v := (229 : Int32)) dd_Mo_isLaw_6 (by decide) (fr_pc (pc' := 9) rfl ?_)
  refine fr_aI0 dd_Mo_isLaw_9 (fun x2 => fr_pc (pc' := 10) rfl ?_)
  refine fp_iconst (v := (1 : Int32)) dd_Mo_isLaw_10 (by decide) (fr_pc (pc' := 11) rfl ?_)
  refine fp_isub dd_Mo_isLaw_11 (fr_pc (pc' := 12) rfl ?_)
  refine fr_callS (stk := []) (ok_Mo_lies p1 (-1 : Int32) (x2 - (1 : Int32))) mt_Mo_lies rfl rfl sw_1237 sw_1238 (by decide) (Nat.le_of_ble_eq_true rfl) dd_Mo_isLaw_12 (fun x3 => fr_to (pc' := 15) (env' := [some (sf_rv p0), some (.int p1)]) (stk' := [.int x3]) rfl rfl rfl ?_)
  exact fr_zret (r := fun x4 => x4) (fun _ => rfl) rfl dd_Mo_isLaw_15
theorem mt_Mo_force : sf_Mt ({ cls := "SplitFaresModel", name := "force", desc := "(I)I" } : Jvm.MethodName) prog_13_method_59_code 3 (some .int) 1 := ⟨sw_1421, sw_12, ⟨by decide, by decide, by decide +kernel⟩, by decide⟩
theorem dd_Mo_force_0 : decode prog_13_method_59_code 0 = .ok (.aload_n 0, 1) := by decide +kernel
theorem dd_Mo_force_1 : decode prog_13_method_59_code 1 = .ok (.iload_n 1, 1) := by decide +kernel
theorem dd_Mo_force_2 : decode prog_13_method_59_code 2 = .ok (.invokevirtual 259, 3) := by decide +kernel
theorem dd_Mo_force_5 : decode prog_13_method_59_code 5 = .ok (.ifCond .ne 10, 3) := by decide +kernel
theorem dd_Mo_force_8 : decode prog_13_method_59_code 8 = .ok (.aload_n 0, 1) := by decide +kernel
theorem dd_Mo_force_9 : decode prog_13_method_59_code 9 = .ok (.bipush (-2), 2) := by decide +kernel
theorem dd_Mo_force_11 : decode prog_13_method_59_code 11 = .ok (.invokevirtual 116, 3) := by decide +kernel
theorem dd_Mo_force_14 : decode prog_13_method_59_code 14 = .ok (.ireturn, 1) := by decide +kernel
theorem dd_Mo_force_15 : decode prog_13_method_59_code 15 = .ok (.aload_n 0, 1) := by decide +kernel
theorem dd_Mo_force_16 : decode prog_13_method_59_code 16 = .ok (.getfield 32, 3) := by decide +kernel
theorem dd_Mo_force_19 : decode prog_13_method_59_code 19 = .ok (.sipush 230, 3) := by decide +kernel
theorem dd_Mo_force_22 : decode prog_13_method_59_code 22 = .ok (.iaload, 1) := by decide +kernel
theorem dd_Mo_force_23 : decode prog_13_method_59_code 23 = .ok (.istore_n 2, 1) := by decide +kernel
theorem dd_Mo_force_24 : decode prog_13_method_59_code 24 = .ok (.aload_n 0, 1) := by decide +kernel
theorem dd_Mo_force_25 : decode prog_13_method_59_code 25 = .ok (.getfield 32, 3) := by decide +kernel
theorem dd_Mo_force_28 : decode prog_13_method_59_code 28 = .ok (.sipush 230, 3) := by decide +kernel
theorem dd_Mo_force_31 : decode prog_13_method_59_code 31 = .ok (.iload_n 1, 1) := by decide +kernel
theorem dd_Mo_force_32 : decode prog_13_method_59_code 32 = .ok (.iastore, 1) := by decide +kernel
theorem dd_Mo_force_33 : decode prog_13_method_59_code 33 = .ok (.aload_n 0, 1) := by decide +kernel
theorem dd_Mo_force_34 : decode prog_13_method_59_code 34 = .ok (.iload_n 2, 1) := by decide +kernel
theorem dd_Mo_force_35 : decode prog_13_method_59_code 35 = .ok (.invokevirtual 14, 3) := by decide +kernel
theorem dd_Mo_force_38 : decode prog_13_method_59_code 38 = .ok (.ireturn, 1) := by decide +kernel
def jx_Mo_force (p0 : Option Nat) (p1 : Int32) : sf_M (Int32) :=
  sf_bnd (sf_rc 11 p0 (jx_Mo_isLaw p0 p1)) fun x1 =>
  if x1 = 0 then (
  sf_bnd (sf_rc 11 p0 (jx_Mo_refuses p0 (-2 : Int32))) fun x3 =>
  sf_ret x3
  ) else (
  sf_bnd (sf_gR 11 2 p0) fun x4 =>
  sf_bnd (sf_aI 0 x4 (230 : Int32)) fun x5 =>
  sf_bnd (sf_gR 11 2 p0) fun x6 =>
  sf_bnd (sf_sI 0 x6 (230 : Int32) p1) fun _ =>
  sf_bnd (sf_rc 11 p0 (jx_Mo_good p0 x5)) fun x7 =>
  sf_ret x7
  )
set_option maxRecDepth 20000 in
set_option maxHeartbeats 4000000 in
theorem ok_Mo_force (p0 : Option Nat) (p1 : Int32) : sf_Ok ({ cls := "SplitFaresModel", name := "force", desc := "(I)I" } : Jvm.MethodName) prog_13_method_59_code 3 (some .int) 2 [sf_rv p0, .int p1] (jx_Mo_force p0 p1) (fun r => some (.int r)) := by
  refine sf_Ok.of (env := [some (sf_rv p0), some (.int p1), none]) (plainFor_of_name (by decide)) [false, false] (fun G => ⟨pk_r, pk_i, trivial⟩) (Nat.le_of_ble_eq_true rfl) rfl (fun X => ?_)
  unfold jx_Mo_force
  refine fp_aload_n (i := 0) (r := p0) dd_Mo_force_0 rfl rfl (fr_pc (pc' := 1) rfl ?_)
  refine fp_iload_n (i := 1) (x := p1) dd_Mo_force_1 rfl rfl (fr_pc (pc' := 2) rfl ?_)
  refine fr_callV (stk := []) (As := [.int p1]) cl_11 (ok_Mo_isLaw p0 p1) mt_Mo_isLaw rfl rfl sw_1422 sw_1424 sp_52 (by decide) (Nat.le_of_ble_eq_true rfl) dd_Mo_force_2 (fun x1 => fr_to (pc' := 5) (env' := [some (sf_rv p0), some (.int p1), none]) (stk' := [.int x1]) rfl rfl rfl ?_)
  refine fr_if_ne (tgt := 15) dd_Mo_force_5 rfl (fun _ => ?_) (fun _ => ?_)
  · refine fr_pc (pc' := 8) rfl ?_
    refine fp_aload_n (i := 0) (r := p0) dd_Mo_force_8 rfl rfl (fr_pc (pc' := 9) rfl ?_)
    refine fp_bipush (v := (-2 : Int32)) dd_Mo_force_9 (by decide) (fr_pc (pc' := 11) rfl ?_)
    refine fr_callV (stk := []) (As := [.int (-2 : Int32)]) cl_11 (ok_Mo_refuses p0 (-2 : Int32)) mt_Mo_refuses rfl rfl sw_1240 sw_1242 sp_27 (by decide) (Nat.le_of_ble_eq_true rfl) dd_Mo_force_11 (fun x3 => fr_to (pc' := 14) (env' := [some (sf_rv p0), some (.int p1), none]) (stk' := [.int x3]) rfl rfl rfl ?_)
    exact fr_iret (v := x3) rfl rfl dd_Mo_force_14
  · refine fp_aload_n (i := 0) (r := p0) dd_Mo_force_15 rfl rfl (fr_pc (pc' := 16) rfl ?_)
    refine fr_gR cl_11 2 (by decide) rfl sw_1074 dd_Mo_force_16 (fun x4 => fr_pc (pc' := 19) rfl ?_)
    refine fp_sipush (v := (230 : Int32)) dd_Mo_force_19 (by decide) (fr_pc (pc' := 22) rfl ?_)
    refine fr_aI0 dd_Mo_force_22 (fun x5 => fr_pc (pc' := 23) rfl ?_)
    refine fp_istore_n (i := 2) dd_Mo_force_23 rfl (Nat.le_of_ble_eq_true rfl) (fun _ => c1_i rfl) (fr_to (pc' := 24) (env' := [some (sf_rv p0), some (.int p1), some (.int x5)]) (stk' := []) rfl rfl rfl ?_)
    refine fp_aload_n (i := 0) (r := p0) dd_Mo_force_24 rfl rfl (fr_pc (pc' := 25) rfl ?_)
    refine fr_gR cl_11 2 (by decide) rfl sw_1074 dd_Mo_force_25 (fun x6 => fr_pc (pc' := 28) rfl ?_)
    refine fp_sipush (v := (230 : Int32)) dd_Mo_force_28 (by decide) (fr_pc (pc' := 31) rfl ?_)
    refine fp_iload_n (i := 1) (x := p1) dd_Mo_force_31 rfl rfl (fr_pc (pc' := 32) rfl ?_)
    refine fr_sI0 dd_Mo_force_32 (fr_pc (pc' := 33) rfl ?_)
    refine fp_aload_n (i := 0) (r := p0) dd_Mo_force_33 rfl rfl (fr_pc (pc' := 34) rfl ?_)
    refine fp_iload_n (i := 2) (x := x5) dd_Mo_force_34 rfl rfl (fr_pc (pc' := 35) rfl ?_)
    refine fr_callV (stk := []) (As := [.int x5]) cl_11 (ok_Mo_good p0 x5) mt_Mo_good rfl rfl sw_1244 sw_1246 sp_28 (by decide) (Nat.le_of_ble_eq_true rfl) dd_Mo_force_35 (fun x7 => fr_to (pc' := 38) (env' := [some (sf_rv p0), some (.int p1), some (.int x5)]) (stk' := [.int x7]) rfl rfl rfl ?_)
    exact fr_iret (v := x7) rfl rfl dd_Mo_force_38
theorem mt_Mo_codeAt : sf_Mt ({ cls := "SplitFaresModel", name := "codeAt", desc := "(I)I" } : Jvm.MethodName) prog_13_method_60_code 2 (some .int) 1 := ⟨sw_1448, sw_12, ⟨by decide, by decide, by decide +kernel⟩, by decide⟩
theorem dd_Mo_codeAt_0 : decode prog_13_method_60_code 0 = .ok (.iload_n 1, 1) := by decide +kernel
theorem dd_Mo_codeAt_1 : decode prog_13_method_60_code 1 = .ok (.aload_n 0, 1) := by decide +kernel
theorem dd_Mo_codeAt_2 : decode prog_13_method_60_code 2 = .ok (.getfield 262, 3) := by decide +kernel
theorem dd_Mo_codeAt_5 : decode prog_13_method_60_code 5 = .ok (.if_icmp .ge 16, 3) := by decide +kernel
theorem dd_Mo_codeAt_8 : decode prog_13_method_60_code 8 = .ok (.aload_n 0, 1) := by decide +kernel
theorem dd_Mo_codeAt_9 : decode prog_13_method_60_code 9 = .ok (.getfield 32, 3) := by decide +kernel
theorem dd_Mo_codeAt_12 : decode prog_13_method_60_code 12 = .ok (.sipush 238, 3) := by decide +kernel
theorem dd_Mo_codeAt_15 : decode prog_13_method_60_code 15 = .ok (.iload_n 1, 1) := by decide +kernel
theorem dd_Mo_codeAt_16 : decode prog_13_method_60_code 16 = .ok (.iadd, 1) := by decide +kernel
theorem dd_Mo_codeAt_17 : decode prog_13_method_60_code 17 = .ok (.iaload, 1) := by decide +kernel
theorem dd_Mo_codeAt_18 : decode prog_13_method_60_code 18 = .ok (.goto 4, 3) := by decide +kernel
theorem dd_Mo_codeAt_21 : decode prog_13_method_60_code 21 = .ok (.iconst 0, 1) := by decide +kernel
theorem dd_Mo_codeAt_22 : decode prog_13_method_60_code 22 = .ok (.ireturn, 1) := by decide +kernel
def jx_Mo_codeAt (p0 : Option Nat) (p1 : Int32) : sf_M (Int32) :=
  sf_bnd (sf_gI 11 23 p0) fun x1 =>
  if x1 ≤ p1 then (
  sf_ret (0 : Int32)
  ) else (
  sf_bnd (sf_gR 11 2 p0) fun x3 =>
  sf_bnd (sf_aI 0 x3 ((238 : Int32) + p1)) fun x4 =>
  sf_ret x4
  )
set_option maxRecDepth 20000 in
set_option maxHeartbeats 4000000 in
theorem ok_Mo_codeAt (p0 : Option Nat) (p1 : Int32) : sf_Ok ({ cls := "SplitFaresModel", name := "codeAt", desc := "(I)I" } : Jvm.MethodName) prog_13_method_60_code 2 (some .int) 0 [sf_rv p0, .int p1] (jx_Mo_codeAt p0 p1) (fun r => some (.int r)) := by
  refine sf_Ok.of (env := [some (sf_rv p0), some (.int p1)]) (plainFor_of_name (by decide)) [false, false] (fun G => ⟨pk_r, pk_i, trivial⟩) (Nat.le_of_ble_eq_true rfl) rfl (fun X => ?_)
  unfold jx_Mo_codeAt
  refine fp_iload_n (i := 1) (x := p1) dd_Mo_codeAt_0 rfl rfl (fr_pc (pc' := 1) rfl ?_)
  refine fp_aload_n (i := 0) (r := p0) dd_Mo_codeAt_1 rfl rfl (fr_pc (pc' := 2) rfl ?_)
  refine fr_gI cl_11 23 (by decide) rfl sw_1095 dd_Mo_codeAt_2 (fun x1 => fr_pc (pc' := 5) rfl ?_)
  refine fr_icmp_ge (tgt := 21) dd_Mo_codeAt_5 rfl (fun _ => ?_) (fun _ => ?_)
  · refine fp_iconst (v := (0 : Int32)) dd_Mo_codeAt_21 (by decide) (fr_pc (pc' := 22) rfl ?_)
    exact fr_iret (v := (0 : Int32)) rfl rfl dd_Mo_codeAt_22
  · refine fr_pc (pc' := 8) rfl ?_
    refine fp_aload_n (i := 0) (r := p0) dd_Mo_codeAt_8 rfl rfl (fr_pc (pc' := 9) rfl ?_)
    refine fr_gR cl_11 2 (by decide) rfl sw_1074 dd_Mo_codeAt_9 (fun x3 => fr_pc (pc' := 12) rfl ?_)
    refine fp_sipush (v := (238 : Int32)) dd_Mo_codeAt_12 (by decide) (fr_pc (pc' := 15) rfl ?_)
    refine fp_iload_n (i := 1) (x := p1) dd_Mo_codeAt_15 rfl rfl (fr_pc (pc' := 16) rfl ?_)
    refine fp_iadd dd_Mo_codeAt_16 (fr_pc (pc' := 17) rfl ?_)
    refine fr_aI0 dd_Mo_codeAt_17 (fun x4 => fr_pc (pc' := 18) rfl ?_)
    refine fp_goto (tgt := 22) dd_Mo_codeAt_18 rfl ?_
    exact fr_iret (v := x4) rfl rfl dd_Mo_codeAt_22
theorem mt_Mo_passes0 : sf_Mt ({ cls := "SplitFaresModel", name := "passes0", desc := "(I)Z" } : Jvm.MethodName) prog_13_method_61_code 3 (some .boolean) 1 := ⟨sw_1464, sw_12, ⟨by decide, by decide, by decide +kernel⟩, by decide⟩
theorem dd_Mo_passes0_0 : decode prog_13_method_61_code 0 = .ok (.aload_n 0, 1) := by decide +kernel
theorem dd_Mo_passes0_1 : decode prog_13_method_61_code 1 = .ok (.aload_n 0, 1) := by decide +kernel
theorem dd_Mo_passes0_2 : decode prog_13_method_61_code 2 = .ok (.getfield 265, 3) := by decide +kernel
theorem dd_Mo_passes0_5 : decode prog_13_method_61_code 5 = .ok (.invokevirtual 268, 3) := by decide +kernel
theorem dd_Mo_passes0_8 : decode prog_13_method_61_code 8 = .ok (.iload_n 1, 1) := by decide +kernel
theorem dd_Mo_passes0_9 : decode prog_13_method_61_code 9 = .ok (.if_icmp .ne 7, 3) := by decide +kernel
theorem dd_Mo_passes0_12 : decode prog_13_method_61_code 12 = .ok (.iconst 1, 1) := by decide +kernel
theorem dd_Mo_passes0_13 : decode prog_13_method_61_code 13 = .ok (.goto 4, 3) := by decide +kernel
theorem dd_Mo_passes0_16 : decode prog_13_method_61_code 16 = .ok (.iconst 0, 1) := by decide +kernel
theorem dd_Mo_passes0_17 : decode prog_13_method_61_code 17 = .ok (.istore_n 2, 1) := by decide +kernel
theorem dd_Mo_passes0_18 : decode prog_13_method_61_code 18 = .ok (.iload_n 2, 1) := by decide +kernel
theorem dd_Mo_passes0_19 : decode prog_13_method_61_code 19 = .ok (.ifCond .eq 13, 3) := by decide +kernel
theorem dd_Mo_passes0_22 : decode prog_13_method_61_code 22 = .ok (.aload_n 0, 1) := by decide +kernel
theorem dd_Mo_passes0_23 : decode prog_13_method_61_code 23 = .ok (.dup, 1) := by decide +kernel
theorem dd_Mo_passes0_24 : decode prog_13_method_61_code 24 = .ok (.getfield 265, 3) := by decide +kernel
theorem dd_Mo_passes0_27 : decode prog_13_method_61_code 27 = .ok (.iconst 1, 1) := by decide +kernel
theorem dd_Mo_passes0_28 : decode prog_13_method_61_code 28 = .ok (.iadd, 1) := by decide +kernel
theorem dd_Mo_passes0_29 : decode prog_13_method_61_code 29 = .ok (.putfield 265, 3) := by decide +kernel
theorem dd_Mo_passes0_32 : decode prog_13_method_61_code 32 = .ok (.iload_n 2, 1) := by decide +kernel
theorem dd_Mo_passes0_33 : decode prog_13_method_61_code 33 = .ok (.ireturn, 1) := by decide +kernel
def jx_Mo_passes0 (p0 : Option Nat) (p1 : Int32) : sf_M (Int32) :=
  sf_bnd (sf_gI 11 22 p0) fun x1 =>
  sf_bnd (sf_rc 11 p0 (jx_Mo_codeAt p0 x1)) fun x2 =>
  sf_bnd (α := (Int32)) (
  if x2 = p1 then (
  sf_ret (1 : Int32)
  ) else (
  sf_ret (0 : Int32)
  )
  ) (fun v4 =>
  if v4 = 0 then (
  sf_bnd (sf_rz v4) fun x6 =>
  sf_ret x6
  ) else (
  sf_bnd (sf_gI 11 22 p0) fun x7 =>
  sf_bnd (sf_pI 11 22 p0 (x7 + (1 : Int32))) fun _ =>
  sf_bnd (sf_rz v4) fun x8 =>
  sf_ret x8
  )
  )
set_option maxRecDepth 20000 in
set_option maxHeartbeats 4000000 in
theorem ok_Mo_passes0 (p0 : Option Nat) (p1 : Int32) : sf_Ok ({ cls := "SplitFaresModel", name := "passes0", desc := "(I)Z" } : Jvm.MethodName) prog_13_method_61_code 3 (some .boolean) 1 [sf_rv p0, .int p1] (jx_Mo_passes0 p0 p1) (fun r => some (.int r)) := by
  refine sf_Ok.of (env := [some (sf_rv p0), some (.int p1), none]) (plainFor_of_name (by decide)) [false, false] (fun G => ⟨pk_r, pk_i, trivial⟩) (Nat.le_of_ble_eq_true rfl) rfl (fun X => ?_)
  unfold jx_Mo_passes0
  refine fp_aload_n (i := 0) (r := p0) dd_Mo_passes0_0 rfl rfl (fr_pc (pc' := 1) rfl ?_)
  refine fp_aload_n (i := 0) (r := p0) dd_Mo_passes0_1 rfl rfl (fr_pc (pc' := 2) rfl ?_)
  refine fr_gI cl_11 22 (by decide) rfl sw_1094 dd_Mo_passes0_2 (fun x1 => fr_pc (pc' := 5) rfl ?_)
  refine fr_callV (stk := []) (As := [.int x1]) cl_11 (ok_Mo_codeAt p0 x1) mt_Mo_codeAt rfl rfl sw_1445 sw_1447 sp_56 (by decide) (Nat.le_of_ble_eq_true rfl) dd_Mo_passes0_5 (fun x2 => fr_to (pc' := 8) (env' := [some (sf_rv p0), some (.int p1), none]) (stk' := [.int x2]) rfl rfl rfl ?_)
  refine fp_iload_n (i := 1) (x := p1) dd_Mo_passes0_8 rfl rfl (fr_pc (pc' := 9) rfl ?_)
  refine fr_bnd (l1 := (fun (v4 : (Int32)) => sf_p 17 [some (sf_rv p0), some (.int p1), none] [.int v4])) ?_ (fun v4 => ?_)
  · refine fr_icmp_ne (tgt := 16) dd_Mo_passes0_9 rfl (fun _ => ?_) (fun _ => ?_)
    · refine fr_pc (pc' := 12) rfl ?_
      refine fp_iconst (v := (1 : Int32)) dd_Mo_passes0_12 (by decide) (fr_pc (pc' := 13) rfl ?_)
      refine fp_goto (tgt := 17) dd_Mo_passes0_13 rfl ?_
      exact fr_ret rfl
    · refine fp_iconst (v := (0 : Int32)) dd_Mo_passes0_16 (by decide) (fr_pc (pc' := 17) rfl ?_)
      exact fr_ret rfl
  · refine fp_istore_n (i := 2) dd_Mo_passes0_17 rfl (Nat.le_of_ble_eq_true rfl) (fun _ => c1_i rfl) (fr_to (pc' := 18) (env' := [some (sf_rv p0), some (.int p1), some (.int v4)]) (stk' := []) rfl rfl rfl ?_)
    refine fp_iload_n (i := 2) (x := v4) dd_Mo_passes0_18 rfl rfl (fr_pc (pc' := 19) rfl ?_)
    refine fr_if_eq (tgt := 32) dd_Mo_passes0_19 rfl (fun _ => ?_) (fun _ => ?_)
    · refine fp_iload_n (i := 2) (x := v4) dd_Mo_passes0_32 rfl rfl (fr_pc (pc' := 33) rfl ?_)
      exact fr_zret (r := fun x6 => x6) (fun _ => rfl) rfl dd_Mo_passes0_33
    · refine fr_pc (pc' := 22) rfl ?_
      refine fp_aload_n (i := 0) (r := p0) dd_Mo_passes0_22 rfl rfl (fr_pc (pc' := 23) rfl ?_)
      refine fp_dup_r dd_Mo_passes0_23 (fr_pc (pc' := 24) rfl ?_)
      refine fr_gI cl_11 22 (by decide) rfl sw_1094 dd_Mo_passes0_24 (fun x7 => fr_pc (pc' := 27) rfl ?_)
      refine fp_iconst (v := (1 : Int32)) dd_Mo_passes0_27 (by decide) (fr_pc (pc' := 28) rfl ?_)
      refine fp_iadd dd_Mo_passes0_28 (fr_pc (pc' := 29) rfl ?_)
      refine fr_pI cl_11 22 (by decide) rfl sw_1094 rfl ⟨rfl, rfl⟩ dd_Mo_passes0_29 (fr_pc (pc' := 32) rfl ?_)
      refine fp_iload_n (i := 2) (x := v4) dd_Mo_passes0_32 rfl rfl (fr_pc (pc' := 33) rfl ?_)
      exact fr_zret (r := fun x8 => x8) (fun _ => rfl) rfl dd_Mo_passes0_33
theorem mt_Mo_bounded : sf_Mt ({ cls := "SplitFaresModel", name := "bounded", desc := "(JZ)J" } : Jvm.MethodName) prog_13_method_62_code 4 (some .long) 2 := ⟨sw_1480, sw_12, ⟨by decide, by decide, by decide +kernel⟩, by decide⟩
theorem dd_Mo_bounded_0 : decode prog_13_method_62_code 0 = .ok (.iload_n 3, 1) := by decide +kernel
theorem dd_Mo_bounded_1 : decode prog_13_method_62_code 1 = .ok (.ifCond .eq 24, 3) := by decide +kernel
theorem dd_Mo_bounded_4 : decode prog_13_method_62_code 4 = .ok (.lload_n 1, 1) := by decide +kernel
theorem dd_Mo_bounded_5 : decode prog_13_method_62_code 5 = .ok (.ldc2_w 271, 3) := by decide +kernel
theorem dd_Mo_bounded_8 : decode prog_13_method_62_code 8 = .ok (.lcmp, 1) := by decide +kernel
theorem dd_Mo_bounded_9 : decode prog_13_method_62_code 9 = .ok (.ifCond .gt 11, 3) := by decide +kernel
theorem dd_Mo_bounded_12 : decode prog_13_method_62_code 12 = .ok (.lload_n 1, 1) := by decide +kernel
theorem dd_Mo_bounded_13 : decode prog_13_method_62_code 13 = .ok (.ldc2_w 273, 3) := by decide +kernel
theorem dd_Mo_bounded_16 : decode prog_13_method_62_code 16 = .ok (.lcmp, 1) := by decide +kernel
theorem dd_Mo_bounded_17 : decode prog_13_method_62_code 17 = .ok (.ifCond .ge 8, 3) := by decide +kernel
theorem dd_Mo_bounded_20 : decode prog_13_method_62_code 20 = .ok (.aload_n 0, 1) := by decide +kernel
theorem dd_Mo_bounded_21 : decode prog_13_method_62_code 21 = .ok (.iconst 1, 1) := by decide +kernel
theorem dd_Mo_bounded_22 : decode prog_13_method_62_code 22 = .ok (.putfield 275, 3) := by decide +kernel
theorem dd_Mo_bounded_25 : decode prog_13_method_62_code 25 = .ok (.aload_n 0, 1) := by decide +kernel
theorem dd_Mo_bounded_26 : decode prog_13_method_62_code 26 = .ok (.getfield 275, 3) := by decide +kernel
theorem dd_Mo_bounded_29 : decode prog_13_method_62_code 29 = .ok (.ifCond .eq 7, 3) := by decide +kernel
theorem dd_Mo_bounded_32 : decode prog_13_method_62_code 32 = .ok (.lconst 0, 1) := by decide +kernel
theorem dd_Mo_bounded_33 : decode prog_13_method_62_code 33 = .ok (.goto 4, 3) := by decide +kernel
theorem dd_Mo_bounded_36 : decode prog_13_method_62_code 36 = .ok (.lload_n 1, 1) := by decide +kernel
theorem dd_Mo_bounded_37 : decode prog_13_method_62_code 37 = .ok (.lreturn, 1) := by decide +kernel
def jx_Mo_bounded (p0 : Option Nat) (p1 : Int64) (p2 : Int32) : sf_M (Int64) :=
  sf_bnd (α := (Unit)) (
  if p2 = 0 then (
  sf_ret ()
  ) else (
  sf_or (α := (Unit)) (β := (Unit)) (
  if 0 < (lg_cmp p1 (1000000000 : Int64)) then (
  sf_ret (.inr ())
  ) else (
  if 0 ≤ (lg_cmp p1 (-1000000000 : Int64)) then (
  sf_ret (.inl ())
  ) else (
  sf_ret (.inr ())
  )
  )
  ) (fun v4 =>
  sf_bnd (sf_pI 11 24 p0 (1 : Int32)) fun _ =>
  sf_ret ()
  )
  )
  ) (fun v5 =>
  sf_bnd (sf_gI 11 24 p0) fun x6 =>
  if x6 = 0 then (
  sf_ret p1
  ) else (
  sf_ret (0 : Int64)
  )
  )
set_option maxRecDepth 20000 in
set_option maxHeartbeats 4000000 in
theorem ok_Mo_bounded (p0 : Option Nat) (p1 : Int64) (p2 : Int32) : sf_Ok ({ cls := "SplitFaresModel", name := "bounded", desc := "(JZ)J" } : Jvm.MethodName) prog_13_method_62_code 4 (some .long) 0 [sf_rv p0, .long p1, .int p2] (jx_Mo_bounded p0 p1 p2) (fun r => some (.long r)) := by
  refine sf_Ok.of (env := [some (sf_rv p0), some (.long p1), none, some (.int p2)]) (plainFor_of_name (by decide)) [false, true, false] (fun G => ⟨pk_r, pk_l, pk_i, trivial⟩) (Nat.le_of_ble_eq_true rfl) rfl (fun X => ?_)
  unfold jx_Mo_bounded
  refine fp_iload_n (i := 3) (x := p2) dd_Mo_bounded_0 rfl rfl (fr_pc (pc' := 1) rfl ?_)
  refine fr_bnd (l1 := (fun (v5 : (Unit)) => sf_p 25 [some (sf_rv p0), some (.long p1), none, some (.int p2)] [])) ?_ (fun v5 => ?_)
  · refine fr_if_eq (tgt := 25) dd_Mo_bounded_1 rfl (fun _ => ?_) (fun _ => ?_)
    · exact fr_ret rfl
    · refine fr_pc (pc' := 4) rfl ?_
      refine fp_lload_n (i := 1) (x := p1) dd_Mo_bounded_4 rfl rfl (fr_pc (pc' := 5) rfl ?_)
      refine fp_ldc2 (v := (1000000000 : Int64)) dd_Mo_bounded_5 sw_1481 (fr_pc (pc' := 8) rfl ?_)
      refine fp_lcmp dd_Mo_bounded_8 (fr_pc (pc' := 9) rfl ?_)
      refine fr_or (l1 := (fun (v4 : (Unit)) => sf_p 20 [some (sf_rv p0), some (.long p1), none, some (.int p2)] [])) ?_ (fun v4 => ?_)
      · refine fr_if_gt (tgt := 20) dd_Mo_bounded_9 rfl (fun _ => ?_) (fun _ => ?_)
        · exact fr_ret rfl
        · refine fr_pc (pc' := 12) rfl ?_
          refine fp_lload_n (i := 1) (x := p1) dd_Mo_bounded_12 rfl rfl (fr_pc (pc' := 13) rfl ?_)
          refine fp_ldc2 (v := (-1000000000 : Int64)) dd_Mo_bounded_13 sw_1482 (fr_pc (pc' := 16) rfl ?_)
          refine fp_lcmp dd_Mo_bounded_16 (fr_pc (pc' := 17) rfl ?_)
          refine fr_if_ge (tgt := 25) dd_Mo_bounded_17 rfl (fun _ => ?_) (fun _ => ?_)
          · exact fr_ret rfl
          · refine fr_pc (pc' := 20) rfl ?_
            exact fr_ret rfl
      · refine fp_aload_n (i := 0) (r := p0) dd_Mo_bounded_20 rfl rfl (fr_pc (pc' := 21) rfl ?_)
        refine fp_iconst (v := (1 : Int32)) dd_Mo_bounded_21 (by decide) (fr_pc (pc' := 22) rfl ?_)
        refine fr_pI cl_11 24 (by decide) rfl sw_1096 rfl ⟨rfl, rfl⟩ dd_Mo_bounded_22 (fr_pc (pc' := 25) rfl ?_)
        exact fr_ret rfl
  · refine fp_aload_n (i := 0) (r := p0) dd_Mo_bounded_25 rfl rfl (fr_pc (pc' := 26) rfl ?_)
    refine fr_gI cl_11 24 (by decide) rfl sw_1096 dd_Mo_bounded_26 (fun x6 => fr_pc (pc' := 29) rfl ?_)
    refine fr_if_eq (tgt := 36) dd_Mo_bounded_29 rfl (fun _ => ?_) (fun _ => ?_)
    · refine fp_lload_n (i := 1) (x := p1) dd_Mo_bounded_36 rfl rfl (fr_pc (pc' := 37) rfl ?_)
      exact fr_lret (v := p1) rfl rfl dd_Mo_bounded_37
    · refine fr_pc (pc' := 32) rfl ?_
      refine fp_lconst (v := (0 : Int64)) dd_Mo_bounded_32 (by decide) (fr_pc (pc' := 33) rfl ?_)
      refine fp_goto (tgt := 37) dd_Mo_bounded_33 rfl ?_
      exact fr_lret (v := (0 : Int64)) rfl rfl dd_Mo_bounded_37
theorem mt_Mo_orderValue : sf_Mt ({ cls := "SplitFaresModel", name := "orderValue", desc := "(II)I" } : Jvm.MethodName) prog_13_method_66_code 3 (some .int) 2 := ⟨sw_1468, sw_12, ⟨by decide, by decide, by decide +kernel⟩, by decide⟩
theorem dd_Mo_orderValue_0 : decode prog_13_method_66_code 0 = .ok (.iload_n 1, 1) := by decide +kernel
theorem dd_Mo_orderValue_1 : decode prog_13_method_66_code 1 = .ok (.tableswitch 81 13 18 #[39, 48, 53, 58, 67, 76], 39) := by decide +kernel
theorem dd_Mo_orderValue_82 : decode prog_13_method_66_code 82 = .ok (.aload_n 0, 1) := by decide +kernel
theorem dd_Mo_orderValue_83 : decode prog_13_method_66_code 83 = .ok (.iload_n 2, 1) := by decide +kernel
theorem dd_Mo_orderValue_84 : decode prog_13_method_66_code 84 = .ok (.invokevirtual 132, 3) := by decide +kernel
theorem dd_Mo_orderValue_87 : decode prog_13_method_66_code 87 = .ok (.ifCond .eq 19, 3) := by decide +kernel
theorem dd_Mo_orderValue_90 : decode prog_13_method_66_code 90 = .ok (.aload_n 0, 1) := by decide +kernel
theorem dd_Mo_orderValue_91 : decode prog_13_method_66_code 91 = .ok (.getfield 32, 3) := by decide +kernel
theorem dd_Mo_orderValue_94 : decode prog_13_method_66_code 94 = .ok (.sipush 195, 3) := by decide +kernel
theorem dd_Mo_orderValue_97 : decode prog_13_method_66_code 97 = .ok (.iload_n 2, 1) := by decide +kernel
theorem dd_Mo_orderValue_98 : decode prog_13_method_66_code 98 = .ok (.iadd, 1) := by decide +kernel
theorem dd_Mo_orderValue_99 : decode prog_13_method_66_code 99 = .ok (.iaload, 1) := by decide +kernel
theorem dd_Mo_orderValue_100 : decode prog_13_method_66_code 100 = .ok (.invokestatic 122, 3) := by decide +kernel
theorem dd_Mo_orderValue_103 : decode prog_13_method_66_code 103 = .ok (.goto 4, 3) := by decide +kernel
theorem dd_Mo_orderValue_106 : decode prog_13_method_66_code 106 = .ok (.iconst (-1), 1) := by decide +kernel
theorem dd_Mo_orderValue_107 : decode prog_13_method_66_code 107 = .ok (.ireturn, 1) := by decide +kernel
theorem dd_Mo_orderValue_77 : decode prog_13_method_66_code 77 = .ok (.aload_n 0, 1) := by decide +kernel
theorem dd_Mo_orderValue_78 : decode prog_13_method_66_code 78 = .ok (.invokevirtual 307, 3) := by decide +kernel
theorem dd_Mo_orderValue_81 : decode prog_13_method_66_code 81 = .ok (.ireturn, 1) := by decide +kernel
theorem dd_Mo_orderValue_68 : decode prog_13_method_66_code 68 = .ok (.aload_n 0, 1) := by decide +kernel
theorem dd_Mo_orderValue_69 : decode prog_13_method_66_code 69 = .ok (.getfield 32, 3) := by decide +kernel
theorem dd_Mo_orderValue_72 : decode prog_13_method_66_code 72 = .ok (.sipush 193, 3) := by decide +kernel
theorem dd_Mo_orderValue_75 : decode prog_13_method_66_code 75 = .ok (.iaload, 1) := by decide +kernel
theorem dd_Mo_orderValue_76 : decode prog_13_method_66_code 76 = .ok (.ireturn, 1) := by decide +kernel
theorem dd_Mo_orderValue_59 : decode prog_13_method_66_code 59 = .ok (.aload_n 0, 1) := by decide +kernel
theorem dd_Mo_orderValue_60 : decode prog_13_method_66_code 60 = .ok (.getfield 32, 3) := by decide +kernel
theorem dd_Mo_orderValue_63 : decode prog_13_method_66_code 63 = .ok (.sipush 192, 3) := by decide +kernel
theorem dd_Mo_orderValue_66 : decode prog_13_method_66_code 66 = .ok (.iaload, 1) := by decide +kernel
theorem dd_Mo_orderValue_67 : decode prog_13_method_66_code 67 = .ok (.ireturn, 1) := by decide +kernel
theorem dd_Mo_orderValue_54 : decode prog_13_method_66_code 54 = .ok (.aload_n 0, 1) := by decide +kernel
theorem dd_Mo_orderValue_55 : decode prog_13_method_66_code 55 = .ok (.getfield 304, 3) := by decide +kernel
theorem dd_Mo_orderValue_58 : decode prog_13_method_66_code 58 = .ok (.ireturn, 1) := by decide +kernel
theorem dd_Mo_orderValue_49 : decode prog_13_method_66_code 49 = .ok (.aload_n 0, 1) := by decide +kernel
theorem dd_Mo_orderValue_50 : decode prog_13_method_66_code 50 = .ok (.getfield 301, 3) := by decide +kernel
theorem dd_Mo_orderValue_53 : decode prog_13_method_66_code 53 = .ok (.ireturn, 1) := by decide +kernel
theorem dd_Mo_orderValue_40 : decode prog_13_method_66_code 40 = .ok (.aload_n 0, 1) := by decide +kernel
theorem dd_Mo_orderValue_41 : decode prog_13_method_66_code 41 = .ok (.getfield 32, 3) := by decide +kernel
theorem dd_Mo_orderValue_44 : decode prog_13_method_66_code 44 = .ok (.sipush 194, 3) := by decide +kernel
theorem dd_Mo_orderValue_47 : decode prog_13_method_66_code 47 = .ok (.iaload, 1) := by decide +kernel
theorem dd_Mo_orderValue_48 : decode prog_13_method_66_code 48 = .ok (.ireturn, 1) := by decide +kernel
def jx_Mo_orderValue (p0 : Option Nat) (p1 : Int32) (p2 : Int32) : sf_M (Int32) :=
  if p1 = (13 : Int32) then (
  sf_bnd (sf_gR 11 2 p0) fun x1 =>
  sf_bnd (sf_aI 0 x1 (194 : Int32)) fun x2 =>
  sf_ret x2
  ) else (
  if p1 = (14 : Int32) then (
  sf_bnd (sf_gI 11 27 p0) fun x3 =>
  sf_ret x3
  ) else (
  if p1 = (15 : Int32) then (
  sf_bnd (sf_gI 11 28 p0) fun x4 =>
  sf_ret x4
  ) else (
  if p1 = (16 : Int32) then (
  sf_bnd (sf_gR 11 2 p0) fun x5 =>
  sf_bnd (sf_aI 0 x5 (192 : Int32)) fun x6 =>
  sf_ret x6
  ) else (
  if p1 = (17 : Int32) then (
  sf_bnd (sf_gR 11 2 p0) fun x7 =>
  sf_bnd (sf_aI 0 x7 (193 : Int32)) fun x8 =>
  sf_ret x8
  ) else (
  if p1 = (18 : Int32) then (
  sf_bnd (sf_rc 11 p0 (jx_Mo_heldAll p0)) fun x9 =>
  sf_ret x9
  ) else (
  sf_bnd (sf_rc 11 p0 (jx_Mo_isTrain p0 p2)) fun x10 =>
  if x10 = 0 then (
  sf_ret (-1 : Int32)
  ) else (
  sf_bnd (sf_gR 11 2 p0) fun x12 =>
  sf_bnd (sf_aI 0 x12 ((195 : Int32) + p2)) fun x13 =>
  sf_bnd (jx_Mo_ones x13) fun x14 =>
  sf_ret x14
  )
  )
  )
  )
  )
  )
  )
set_option maxRecDepth 20000 in
set_option maxHeartbeats 4000000 in
theorem ok_Mo_orderValue (p0 : Option Nat) (p1 : Int32) (p2 : Int32) : sf_Ok ({ cls := "SplitFaresModel", name := "orderValue", desc := "(II)I" } : Jvm.MethodName) prog_13_method_66_code 3 (some .int) 2 [sf_rv p0, .int p1, .int p2] (jx_Mo_orderValue p0 p1 p2) (fun r => some (.int r)) := by
  refine sf_Ok.of (env := [some (sf_rv p0), some (.int p1), some (.int p2)]) (plainFor_of_name (by decide)) [false, false, false] (fun G => ⟨pk_r, pk_i, pk_i, trivial⟩) (Nat.le_of_ble_eq_true rfl) rfl (fun X => ?_)
  unfold jx_Mo_orderValue
  refine fp_iload_n (i := 1) (x := p1) dd_Mo_orderValue_0 rfl rfl (fr_pc (pc' := 1) rfl ?_)
  refine fp_tsw (ts := [40, 49, 54, 59, 68, 77]) (t0 := 82) (cs := [((13 : Int32), 40), ((14 : Int32), 49), ((15 : Int32), 54), ((16 : Int32), 59), ((17 : Int32), 68), ((18 : Int32), 77)]) dd_Mo_orderValue_1 (by decide) rfl ?_
  refine fr_sw (fun _ => ?_) (fun _ => ?_)
  · refine fp_aload_n (i := 0) (r := p0) dd_Mo_orderValue_40 rfl rfl (fr_pc (pc' := 41) rfl ?_)
    refine fr_gR cl_11 2 (by decide) rfl sw_1074 dd_Mo_orderValue_41 (fun x1 => fr_pc (pc' := 44) rfl ?_)
    refine fp_sipush (v := (194 : Int32)) dd_Mo_orderValue_44 (by decide) (fr_pc (pc' := 47) rfl ?_)
    refine fr_aI0 dd_Mo_orderValue_47 (fun x2 => fr_pc (pc' := 48) rfl ?_)
    exact fr_iret (v := x2) rfl rfl dd_Mo_orderValue_48
  · refine fr_sw (fun _ => ?_) (fun _ => ?_)
    · refine fp_aload_n (i := 0) (r := p0) dd_Mo_orderValue_49 rfl rfl (fr_pc (pc' := 50) rfl ?_)
      refine fr_gI cl_11 27 (by decide) rfl sw_1099 dd_Mo_orderValue_50 (fun x3 => fr_pc (pc' := 53) rfl ?_)
      exact fr_iret (v := x3) rfl rfl dd_Mo_orderValue_53
    · refine fr_sw (fun _ => ?_) (fun _ => ?_)
      · refine fp_aload_n (i := 0) (r := p0) dd_Mo_orderValue_54 rfl rfl (fr_pc (pc' := 55) rfl ?_)
        refine fr_gI cl_11 28 (by decide) rfl sw_1100 dd_Mo_orderValue_55 (fun x4 => fr_pc (pc' := 58) rfl ?_)
        exact fr_iret (v := x4) rfl rfl dd_Mo_orderValue_58
      · refine fr_sw (fun _ => ?_) (fun _ => ?_)
        · refine fp_aload_n (i := 0) (r := p0) dd_Mo_orderValue_59 rfl rfl (fr_pc (pc' := 60) rfl ?_)
          refine fr_gR cl_11 2 (by decide) rfl sw_1074 dd_Mo_orderValue_60 (fun x5 => fr_pc (pc' := 63) rfl ?_)
          refine fp_sipush (v := (192 : Int32)) dd_Mo_orderValue_63 (by decide) (fr_pc (pc' := 66) rfl ?_)
          refine fr_aI0 dd_Mo_orderValue_66 (fun x6 => fr_pc (pc' := 67) rfl ?_)
          exact fr_iret (v := x6) rfl rfl dd_Mo_orderValue_67
        · refine fr_sw (fun _ => ?_) (fun _ => ?_)
          · refine fp_aload_n (i := 0) (r := p0) dd_Mo_orderValue_68 rfl rfl (fr_pc (pc' := 69) rfl ?_)
            refine fr_gR cl_11 2 (by decide) rfl sw_1074 dd_Mo_orderValue_69 (fun x7 => fr_pc (pc' := 72) rfl ?_)
            refine fp_sipush (v := (193 : Int32)) dd_Mo_orderValue_72 (by decide) (fr_pc (pc' := 75) rfl ?_)
            refine fr_aI0 dd_Mo_orderValue_75 (fun x8 => fr_pc (pc' := 76) rfl ?_)
            exact fr_iret (v := x8) rfl rfl dd_Mo_orderValue_76
          · refine fr_sw (fun _ => ?_) (fun _ => ?_)
            · refine fp_aload_n (i := 0) (r := p0) dd_Mo_orderValue_77 rfl rfl (fr_pc (pc' := 78) rfl ?_)
              refine fr_callV (stk := []) (As := []) cl_11 (ok_Mo_heldAll p0) mt_Mo_heldAll rfl rfl sw_1469 sw_1471 sp_62 (by decide) (Nat.le_of_ble_eq_true rfl) dd_Mo_orderValue_78 (fun x9 => fr_to (pc' := 81) (env' := [some (sf_rv p0), some (.int p1), some (.int p2)]) (stk' := [.int x9]) rfl rfl rfl ?_)
              exact fr_iret (v := x9) rfl rfl dd_Mo_orderValue_81
            · refine fr_pc (pc' := 82) rfl ?_
              refine fp_aload_n (i := 0) (r := p0) dd_Mo_orderValue_82 rfl rfl (fr_pc (pc' := 83) rfl ?_)
              refine fp_iload_n (i := 2) (x := p2) dd_Mo_orderValue_83 rfl rfl (fr_pc (pc' := 84) rfl ?_)
              refine fr_callV (stk := []) (As := [.int p2]) cl_11 (ok_Mo_isTrain p0 p2) mt_Mo_isTrain rfl rfl sw_1274 sw_1276 sp_31 (by decide) (Nat.le_of_ble_eq_true rfl) dd_Mo_orderValue_84 (fun x10 => fr_to (pc' := 87) (env' := [some (sf_rv p0), some (.int p1), some (.int p2)]) (stk' := [.int x10]) rfl rfl rfl ?_)
              refine fr_if_eq (tgt := 106) dd_Mo_orderValue_87 rfl (fun _ => ?_) (fun _ => ?_)
              · refine fp_iconst (v := (-1 : Int32)) dd_Mo_orderValue_106 (by decide) (fr_pc (pc' := 107) rfl ?_)
                exact fr_iret (v := (-1 : Int32)) rfl rfl dd_Mo_orderValue_107
              · refine fr_pc (pc' := 90) rfl ?_
                refine fp_aload_n (i := 0) (r := p0) dd_Mo_orderValue_90 rfl rfl (fr_pc (pc' := 91) rfl ?_)
                refine fr_gR cl_11 2 (by decide) rfl sw_1074 dd_Mo_orderValue_91 (fun x12 => fr_pc (pc' := 94) rfl ?_)
                refine fp_sipush (v := (195 : Int32)) dd_Mo_orderValue_94 (by decide) (fr_pc (pc' := 97) rfl ?_)
                refine fp_iload_n (i := 2) (x := p2) dd_Mo_orderValue_97 rfl rfl (fr_pc (pc' := 98) rfl ?_)
                refine fp_iadd dd_Mo_orderValue_98 (fr_pc (pc' := 99) rfl ?_)
                refine fr_aI0 dd_Mo_orderValue_99 (fun x13 => fr_pc (pc' := 100) rfl ?_)
                refine fr_callS (stk := []) (ok_Mo_ones x13) mt_Mo_ones rfl rfl sw_1263 sw_1264 (by decide) (Nat.le_of_ble_eq_true rfl) dd_Mo_orderValue_100 (fun x14 => fr_to (pc' := 103) (env' := [some (sf_rv p0), some (.int p1), some (.int p2)]) (stk' := [.int x14]) rfl rfl rfl ?_)
                refine fp_goto (tgt := 107) dd_Mo_orderValue_103 rfl ?_
                exact fr_iret (v := x14) rfl rfl dd_Mo_orderValue_107
theorem mt_Mo_sumOf : sf_Mt ({ cls := "SplitFaresModel", name := "sumOf", desc := "(Z)J" } : Jvm.MethodName) prog_13_method_63_code 7 (some .long) 1 := ⟨sw_1452, sw_12, ⟨by decide, by decide, by decide +kernel⟩, by decide⟩
theorem dd_Mo_sumOf_0 : decode prog_13_method_63_code 0 = .ok (.aload_n 0, 1) := by decide +kernel
theorem dd_Mo_sumOf_1 : decode prog_13_method_63_code 1 = .ok (.iload_n 1, 1) := by decide +kernel
theorem dd_Mo_sumOf_2 : decode prog_13_method_63_code 2 = .ok (.invokevirtual 278, 3) := by decide +kernel
theorem dd_Mo_sumOf_5 : decode prog_13_method_63_code 5 = .ok (.lstore_n 2, 1) := by decide +kernel
theorem dd_Mo_sumOf_6 : decode prog_13_method_63_code 6 = .ok (.aload_n 0, 1) := by decide +kernel
theorem dd_Mo_sumOf_7 : decode prog_13_method_63_code 7 = .ok (.aload_n 0, 1) := by decide +kernel
theorem dd_Mo_sumOf_8 : decode prog_13_method_63_code 8 = .ok (.getfield 265, 3) := by decide +kernel
theorem dd_Mo_sumOf_11 : decode prog_13_method_63_code 11 = .ok (.invokevirtual 268, 3) := by decide +kernel
theorem dd_Mo_sumOf_14 : decode prog_13_method_63_code 14 = .ok (.bipush 43, 2) := by decide +kernel
theorem dd_Mo_sumOf_16 : decode prog_13_method_63_code 16 = .ok (.invokestatic 224, 3) := by decide +kernel
theorem dd_Mo_sumOf_19 : decode prog_13_method_63_code 19 = .ok (.if_icmp .eq 19, 3) := by decide +kernel
theorem dd_Mo_sumOf_22 : decode prog_13_method_63_code 22 = .ok (.aload_n 0, 1) := by decide +kernel
theorem dd_Mo_sumOf_23 : decode prog_13_method_63_code 23 = .ok (.aload_n 0, 1) := by decide +kernel
theorem dd_Mo_sumOf_24 : decode prog_13_method_63_code 24 = .ok (.getfield 265, 3) := by decide +kernel
theorem dd_Mo_sumOf_27 : decode prog_13_method_63_code 27 = .ok (.invokevirtual 268, 3) := by decide +kernel
theorem dd_Mo_sumOf_30 : decode prog_13_method_63_code 30 = .ok (.bipush 45, 2) := by decide +kernel
theorem dd_Mo_sumOf_32 : decode prog_13_method_63_code 32 = .ok (.invokestatic 224, 3) := by decide +kernel
theorem dd_Mo_sumOf_35 : decode prog_13_method_63_code 35 = .ok (.if_icmp .ne 68, 3) := by decide +kernel
theorem dd_Mo_sumOf_103 : decode prog_13_method_63_code 103 = .ok (.lload_n 2, 1) := by decide +kernel
theorem dd_Mo_sumOf_104 : decode prog_13_method_63_code 104 = .ok (.lreturn, 1) := by decide +kernel
theorem dd_Mo_sumOf_38 : decode prog_13_method_63_code 38 = .ok (.aload_n 0, 1) := by decide +kernel
theorem dd_Mo_sumOf_39 : decode prog_13_method_63_code 39 = .ok (.aload_n 0, 1) := by decide +kernel
theorem dd_Mo_sumOf_40 : decode prog_13_method_63_code 40 = .ok (.getfield 265, 3) := by decide +kernel
theorem dd_Mo_sumOf_43 : decode prog_13_method_63_code 43 = .ok (.invokevirtual 268, 3) := by decide +kernel
theorem dd_Mo_sumOf_46 : decode prog_13_method_63_code 46 = .ok (.bipush 43, 2) := by decide +kernel
theorem dd_Mo_sumOf_48 : decode prog_13_method_63_code 48 = .ok (.invokestatic 224, 3) := by decide +kernel
theorem dd_Mo_sumOf_51 : decode prog_13_method_63_code 51 = .ok (.if_icmp .ne 7, 3) := by decide +kernel
theorem dd_Mo_sumOf_54 : decode prog_13_method_63_code 54 = .ok (.iconst 1, 1) := by decide +kernel
theorem dd_Mo_sumOf_55 : decode prog_13_method_63_code 55 = .ok (.goto 4, 3) := by decide +kernel
theorem dd_Mo_sumOf_58 : decode prog_13_method_63_code 58 = .ok (.iconst 0, 1) := by decide +kernel
theorem dd_Mo_sumOf_59 : decode prog_13_method_63_code 59 = .ok (.istore 4, 2) := by decide +kernel
theorem dd_Mo_sumOf_61 : decode prog_13_method_63_code 61 = .ok (.aload_n 0, 1) := by decide +kernel
theorem dd_Mo_sumOf_62 : decode prog_13_method_63_code 62 = .ok (.dup, 1) := by decide +kernel
theorem dd_Mo_sumOf_63 : decode prog_13_method_63_code 63 = .ok (.getfield 265, 3) := by decide +kernel
theorem dd_Mo_sumOf_66 : decode prog_13_method_63_code 66 = .ok (.iconst 1, 1) := by decide +kernel
theorem dd_Mo_sumOf_67 : decode prog_13_method_63_code 67 = .ok (.iadd, 1) := by decide +kernel
theorem dd_Mo_sumOf_68 : decode prog_13_method_63_code 68 = .ok (.putfield 265, 3) := by decide +kernel
theorem dd_Mo_sumOf_71 : decode prog_13_method_63_code 71 = .ok (.aload_n 0, 1) := by decide +kernel
theorem dd_Mo_sumOf_72 : decode prog_13_method_63_code 72 = .ok (.iload_n 1, 1) := by decide +kernel
theorem dd_Mo_sumOf_73 : decode prog_13_method_63_code 73 = .ok (.invokevirtual 278, 3) := by decide +kernel
theorem dd_Mo_sumOf_76 : decode prog_13_method_63_code 76 = .ok (.lstore 5, 2) := by decide +kernel
theorem dd_Mo_sumOf_78 : decode prog_13_method_63_code 78 = .ok (.aload_n 0, 1) := by decide +kernel
theorem dd_Mo_sumOf_79 : decode prog_13_method_63_code 79 = .ok (.iload 4, 2) := by decide +kernel
theorem dd_Mo_sumOf_81 : decode prog_13_method_63_code 81 = .ok (.ifCond .eq 10, 3) := by decide +kernel
theorem dd_Mo_sumOf_84 : decode prog_13_method_63_code 84 = .ok (.lload_n 2, 1) := by decide +kernel
theorem dd_Mo_sumOf_85 : decode prog_13_method_63_code 85 = .ok (.lload 5, 2) := by decide +kernel
theorem dd_Mo_sumOf_87 : decode prog_13_method_63_code 87 = .ok (.ladd, 1) := by decide +kernel
theorem dd_Mo_sumOf_88 : decode prog_13_method_63_code 88 = .ok (.goto 7, 3) := by decide +kernel
theorem dd_Mo_sumOf_91 : decode prog_13_method_63_code 91 = .ok (.lload_n 2, 1) := by decide +kernel
theorem dd_Mo_sumOf_92 : decode prog_13_method_63_code 92 = .ok (.lload 5, 2) := by decide +kernel
theorem dd_Mo_sumOf_94 : decode prog_13_method_63_code 94 = .ok (.lsub, 1) := by decide +kernel
theorem dd_Mo_sumOf_95 : decode prog_13_method_63_code 95 = .ok (.iload_n 1, 1) := by decide +kernel
theorem dd_Mo_sumOf_96 : decode prog_13_method_63_code 96 = .ok (.invokevirtual 282, 3) := by decide +kernel
theorem dd_Mo_sumOf_99 : decode prog_13_method_63_code 99 = .ok (.lstore_n 2, 1) := by decide +kernel
theorem dd_Mo_sumOf_100 : decode prog_13_method_63_code 100 = .ok (.goto (-94), 3) := by decide +kernel
theorem mt_Mo_termOf : sf_Mt ({ cls := "SplitFaresModel", name := "termOf", desc := "(Z)J" } : Jvm.MethodName) prog_13_method_64_code 7 (some .long) 1 := ⟨sw_1456, sw_12, ⟨by decide, by decide, by decide +kernel⟩, by decide⟩
theorem dd_Mo_termOf_0 : decode prog_13_method_64_code 0 = .ok (.aload_n 0, 1) := by decide +kernel
theorem dd_Mo_termOf_1 : decode prog_13_method_64_code 1 = .ok (.iload_n 1, 1) := by decide +kernel
theorem dd_Mo_termOf_2 : decode prog_13_method_64_code 2 = .ok (.invokevirtual 286, 3) := by decide +kernel
theorem dd_Mo_termOf_5 : decode prog_13_method_64_code 5 = .ok (.lstore_n 2, 1) := by decide +kernel
theorem dd_Mo_termOf_6 : decode prog_13_method_64_code 6 = .ok (.aload_n 0, 1) := by decide +kernel
theorem dd_Mo_termOf_7 : decode prog_13_method_64_code 7 = .ok (.aload_n 0, 1) := by decide +kernel
theorem dd_Mo_termOf_8 : decode prog_13_method_64_code 8 = .ok (.getfield 265, 3) := by decide +kernel
theorem dd_Mo_termOf_11 : decode prog_13_method_64_code 11 = .ok (.invokevirtual 268, 3) := by decide +kernel
theorem dd_Mo_termOf_14 : decode prog_13_method_64_code 14 = .ok (.bipush 42, 2) := by decide +kernel
theorem dd_Mo_termOf_16 : decode prog_13_method_64_code 16 = .ok (.invokestatic 224, 3) := by decide +kernel
theorem dd_Mo_termOf_19 : decode prog_13_method_64_code 19 = .ok (.if_icmp .eq 35, 3) := by decide +kernel
theorem dd_Mo_termOf_22 : decode prog_13_method_64_code 22 = .ok (.aload_n 0, 1) := by decide +kernel
theorem dd_Mo_termOf_23 : decode prog_13_method_64_code 23 = .ok (.aload_n 0, 1) := by decide +kernel
theorem dd_Mo_termOf_24 : decode prog_13_method_64_code 24 = .ok (.getfield 265, 3) := by decide +kernel
theorem dd_Mo_termOf_27 : decode prog_13_method_64_code 27 = .ok (.invokevirtual 268, 3) := by decide +kernel
theorem dd_Mo_termOf_30 : decode prog_13_method_64_code 30 = .ok (.bipush 47, 2) := by decide +kernel
theorem dd_Mo_termOf_32 : decode prog_13_method_64_code 32 = .ok (.invokestatic 224, 3) := by decide +kernel
theorem dd_Mo_termOf_35 : decode prog_13_method_64_code 35 = .ok (.if_icmp .eq 19, 3) := by decide +kernel
theorem dd_Mo_termOf_38 : decode prog_13_method_64_code 38 = .ok (.aload_n 0, 1) := by decide +kernel
theorem dd_Mo_termOf_39 : decode prog_13_method_64_code 39 = .ok (.aload_n 0, 1) := by decide +kernel
theorem dd_Mo_termOf_40 : decode prog_13_method_64_code 40 = .ok (.getfield 265, 3) := by decide +kernel
theorem dd_Mo_termOf_43 : decode prog_13_method_64_code 43 = .ok (.invokevirtual 268, 3) := by decide +kernel
theorem dd_Mo_termOf_46 : decode prog_13_method_64_code 46 = .ok (.bipush 37, 2) := by decide +kernel
theorem dd_Mo_termOf_48 : decode prog_13_method_64_code 48 = .ok (.invokestatic 224, 3) := by decide +kernel
theorem dd_Mo_termOf_51 : decode prog_13_method_64_code 51 = .ok (.if_icmp .ne 117, 3) := by decide +kernel
theorem dd_Mo_termOf_168 : decode prog_13_method_64_code 168 = .ok (.lload_n 2, 1) := by decide +kernel
theorem dd_Mo_termOf_169 : decode prog_13_method_64_code 169 = .ok (.lreturn, 1) := by decide +kernel
theorem dd_Mo_termOf_54 : decode prog_13_method_64_code 54 = .ok (.aload_n 0, 1) := by decide +kernel
theorem dd_Mo_termOf_55 : decode prog_13_method_64_code 55 = .ok (.aload_n 0, 1) := by decide +kernel
theorem dd_Mo_termOf_56 : decode prog_13_method_64_code 56 = .ok (.getfield 265, 3) := by decide +kernel
theorem dd_Mo_termOf_59 : decode prog_13_method_64_code 59 = .ok (.invokevirtual 268, 3) := by decide +kernel
theorem dd_Mo_termOf_62 : decode prog_13_method_64_code 62 = .ok (.istore 4, 2) := by decide +kernel
theorem dd_Mo_termOf_64 : decode prog_13_method_64_code 64 = .ok (.aload_n 0, 1) := by decide +kernel
theorem dd_Mo_termOf_65 : decode prog_13_method_64_code 65 = .ok (.dup, 1) := by decide +kernel
theorem dd_Mo_termOf_66 : decode prog_13_method_64_code 66 = .ok (.getfield 265, 3) := by decide +kernel
theorem dd_Mo_termOf_69 : decode prog_13_method_64_code 69 = .ok (.iconst 1, 1) := by decide +kernel
theorem dd_Mo_termOf_70 : decode prog_13_method_64_code 70 = .ok (.iadd, 1) := by decide +kernel
theorem dd_Mo_termOf_71 : decode prog_13_method_64_code 71 = .ok (.putfield 265, 3) := by decide +kernel
theorem dd_Mo_termOf_74 : decode prog_13_method_64_code 74 = .ok (.aload_n 0, 1) := by decide +kernel
theorem dd_Mo_termOf_75 : decode prog_13_method_64_code 75 = .ok (.iload_n 1, 1) := by decide +kernel
theorem dd_Mo_termOf_76 : decode prog_13_method_64_code 76 = .ok (.invokevirtual 286, 3) := by decide +kernel
theorem dd_Mo_termOf_79 : decode prog_13_method_64_code 79 = .ok (.lstore 5, 2) := by decide +kernel
theorem dd_Mo_termOf_81 : decode prog_13_method_64_code 81 = .ok (.iload 4, 2) := by decide +kernel
theorem dd_Mo_termOf_83 : decode prog_13_method_64_code 83 = .ok (.bipush 42, 2) := by decide +kernel
theorem dd_Mo_termOf_85 : decode prog_13_method_64_code 85 = .ok (.invokestatic 224, 3) := by decide +kernel
theorem dd_Mo_termOf_88 : decode prog_13_method_64_code 88 = .ok (.if_icmp .eq 33, 3) := by decide +kernel
theorem dd_Mo_termOf_91 : decode prog_13_method_64_code 91 = .ok (.lload 5, 2) := by decide +kernel
theorem dd_Mo_termOf_93 : decode prog_13_method_64_code 93 = .ok (.lconst 0, 1) := by decide +kernel
theorem dd_Mo_termOf_94 : decode prog_13_method_64_code 94 = .ok (.lcmp, 1) := by decide +kernel
theorem dd_Mo_termOf_95 : decode prog_13_method_64_code 95 = .ok (.ifCond .ne 26, 3) := by decide +kernel
theorem dd_Mo_termOf_98 : decode prog_13_method_64_code 98 = .ok (.aload_n 0, 1) := by decide +kernel
theorem dd_Mo_termOf_99 : decode prog_13_method_64_code 99 = .ok (.aload_n 0, 1) := by decide +kernel
theorem dd_Mo_termOf_100 : decode prog_13_method_64_code 100 = .ok (.getfield 275, 3) := by decide +kernel
theorem dd_Mo_termOf_103 : decode prog_13_method_64_code 103 = .ok (.ifCond .ne 7, 3) := by decide +kernel
theorem dd_Mo_termOf_106 : decode prog_13_method_64_code 106 = .ok (.iload_n 1, 1) := by decide +kernel
theorem dd_Mo_termOf_107 : decode prog_13_method_64_code 107 = .ok (.ifCond .eq 7, 3) := by decide +kernel
theorem dd_Mo_termOf_114 : decode prog_13_method_64_code 114 = .ok (.iconst 0, 1) := by decide +kernel
theorem dd_Mo_termOf_110 : decode prog_13_method_64_code 110 = .ok (.iconst 1, 1) := by decide +kernel
theorem dd_Mo_termOf_111 : decode prog_13_method_64_code 111 = .ok (.goto 4, 3) := by decide +kernel
theorem dd_Mo_termOf_115 : decode prog_13_method_64_code 115 = .ok (.putfield 275, 3) := by decide +kernel
theorem dd_Mo_termOf_118 : decode prog_13_method_64_code 118 = .ok (.lconst 1, 1) := by decide +kernel
theorem dd_Mo_termOf_119 : decode prog_13_method_64_code 119 = .ok (.lstore 5, 2) := by decide +kernel
theorem dd_Mo_termOf_121 : decode prog_13_method_64_code 121 = .ok (.aload_n 0, 1) := by decide +kernel
theorem dd_Mo_termOf_122 : decode prog_13_method_64_code 122 = .ok (.iload 4, 2) := by decide +kernel
theorem dd_Mo_termOf_124 : decode prog_13_method_64_code 124 = .ok (.bipush 42, 2) := by decide +kernel
theorem dd_Mo_termOf_126 : decode prog_13_method_64_code 126 = .ok (.invokestatic 224, 3) := by decide +kernel
theorem dd_Mo_termOf_129 : decode prog_13_method_64_code 129 = .ok (.if_icmp .ne 10, 3) := by decide +kernel
theorem dd_Mo_termOf_132 : decode prog_13_method_64_code 132 = .ok (.lload_n 2, 1) := by decide +kernel
theorem dd_Mo_termOf_133 : decode prog_13_method_64_code 133 = .ok (.lload 5, 2) := by decide +kernel
theorem dd_Mo_termOf_135 : decode prog_13_method_64_code 135 = .ok (.lmul, 1) := by decide +kernel
theorem dd_Mo_termOf_136 : decode prog_13_method_64_code 136 = .ok (.goto 24, 3) := by decide +kernel
theorem dd_Mo_termOf_139 : decode prog_13_method_64_code 139 = .ok (.iload 4, 2) := by decide +kernel
theorem dd_Mo_termOf_141 : decode prog_13_method_64_code 141 = .ok (.bipush 47, 2) := by decide +kernel
theorem dd_Mo_termOf_143 : decode prog_13_method_64_code 143 = .ok (.invokestatic 224, 3) := by decide +kernel
theorem dd_Mo_termOf_146 : decode prog_13_method_64_code 146 = .ok (.if_icmp .ne 10, 3) := by decide +kernel
theorem dd_Mo_termOf_149 : decode prog_13_method_64_code 149 = .ok (.lload_n 2, 1) := by decide +kernel
theorem dd_Mo_termOf_150 : decode prog_13_method_64_code 150 = .ok (.lload 5, 2) := by decide +kernel
theorem dd_Mo_termOf_152 : decode prog_13_method_64_code 152 = .ok (.ldiv, 1) := by decide +kernel
theorem dd_Mo_termOf_153 : decode prog_13_method_64_code 153 = .ok (.goto 7, 3) := by decide +kernel
theorem dd_Mo_termOf_156 : decode prog_13_method_64_code 156 = .ok (.lload_n 2, 1) := by decide +kernel
theorem dd_Mo_termOf_157 : decode prog_13_method_64_code 157 = .ok (.lload 5, 2) := by decide +kernel
theorem dd_Mo_termOf_159 : decode prog_13_method_64_code 159 = .ok (.lrem, 1) := by decide +kernel
theorem dd_Mo_termOf_160 : decode prog_13_method_64_code 160 = .ok (.iload_n 1, 1) := by decide +kernel
theorem dd_Mo_termOf_161 : decode prog_13_method_64_code 161 = .ok (.invokevirtual 282, 3) := by decide +kernel
theorem dd_Mo_termOf_164 : decode prog_13_method_64_code 164 = .ok (.lstore_n 2, 1) := by decide +kernel
theorem dd_Mo_termOf_165 : decode prog_13_method_64_code 165 = .ok (.goto (-159), 3) := by decide +kernel
theorem mt_Mo_partOf : sf_Mt ({ cls := "SplitFaresModel", name := "partOf", desc := "(Z)J" } : Jvm.MethodName) prog_13_method_65_code 4 (some .long) 1 := ⟨sw_1460, sw_12, ⟨by decide, by decide, by decide +kernel⟩, by decide⟩
theorem dd_Mo_partOf_0 : decode prog_13_method_65_code 0 = .ok (.aload_n 0, 1) := by decide +kernel
theorem dd_Mo_partOf_1 : decode prog_13_method_65_code 1 = .ok (.bipush 91, 2) := by decide +kernel
theorem dd_Mo_partOf_3 : decode prog_13_method_65_code 3 = .ok (.invokestatic 224, 3) := by decide +kernel
theorem dd_Mo_partOf_6 : decode prog_13_method_65_code 6 = .ok (.invokevirtual 289, 3) := by decide +kernel
theorem dd_Mo_partOf_9 : decode prog_13_method_65_code 9 = .ok (.ifCond .eq 21, 3) := by decide +kernel
theorem dd_Mo_partOf_12 : decode prog_13_method_65_code 12 = .ok (.aload_n 0, 1) := by decide +kernel
theorem dd_Mo_partOf_13 : decode prog_13_method_65_code 13 = .ok (.iload_n 1, 1) := by decide +kernel
theorem dd_Mo_partOf_14 : decode prog_13_method_65_code 14 = .ok (.invokevirtual 292, 3) := by decide +kernel
theorem dd_Mo_partOf_17 : decode prog_13_method_65_code 17 = .ok (.lstore_n 2, 1) := by decide +kernel
theorem dd_Mo_partOf_18 : decode prog_13_method_65_code 18 = .ok (.aload_n 0, 1) := by decide +kernel
theorem dd_Mo_partOf_19 : decode prog_13_method_65_code 19 = .ok (.dup, 1) := by decide +kernel
theorem dd_Mo_partOf_20 : decode prog_13_method_65_code 20 = .ok (.getfield 265, 3) := by decide +kernel
theorem dd_Mo_partOf_23 : decode prog_13_method_65_code 23 = .ok (.iconst 1, 1) := by decide +kernel
theorem dd_Mo_partOf_24 : decode prog_13_method_65_code 24 = .ok (.iadd, 1) := by decide +kernel
theorem dd_Mo_partOf_25 : decode prog_13_method_65_code 25 = .ok (.putfield 265, 3) := by decide +kernel
theorem dd_Mo_partOf_28 : decode prog_13_method_65_code 28 = .ok (.lload_n 2, 1) := by decide +kernel
theorem dd_Mo_partOf_29 : decode prog_13_method_65_code 29 = .ok (.lreturn, 1) := by decide +kernel
theorem dd_Mo_partOf_30 : decode prog_13_method_65_code 30 = .ok (.aload_n 0, 1) := by decide +kernel
theorem dd_Mo_partOf_31 : decode prog_13_method_65_code 31 = .ok (.aload_n 0, 1) := by decide +kernel
theorem dd_Mo_partOf_32 : decode prog_13_method_65_code 32 = .ok (.getfield 265, 3) := by decide +kernel
theorem dd_Mo_partOf_35 : decode prog_13_method_65_code 35 = .ok (.invokevirtual 268, 3) := by decide +kernel
theorem dd_Mo_partOf_38 : decode prog_13_method_65_code 38 = .ok (.istore_n 2, 1) := by decide +kernel
theorem dd_Mo_partOf_39 : decode prog_13_method_65_code 39 = .ok (.iconst 0, 1) := by decide +kernel
theorem dd_Mo_partOf_40 : decode prog_13_method_65_code 40 = .ok (.istore_n 3, 1) := by decide +kernel
theorem dd_Mo_partOf_41 : decode prog_13_method_65_code 41 = .ok (.aload_n 0, 1) := by decide +kernel
theorem dd_Mo_partOf_42 : decode prog_13_method_65_code 42 = .ok (.dup, 1) := by decide +kernel
theorem dd_Mo_partOf_43 : decode prog_13_method_65_code 43 = .ok (.getfield 265, 3) := by decide +kernel
theorem dd_Mo_partOf_46 : decode prog_13_method_65_code 46 = .ok (.iconst 1, 1) := by decide +kernel
theorem dd_Mo_partOf_47 : decode prog_13_method_65_code 47 = .ok (.iadd, 1) := by decide +kernel
theorem dd_Mo_partOf_48 : decode prog_13_method_65_code 48 = .ok (.putfield 265, 3) := by decide +kernel
theorem dd_Mo_partOf_51 : decode prog_13_method_65_code 51 = .ok (.aload_n 0, 1) := by decide +kernel
theorem dd_Mo_partOf_52 : decode prog_13_method_65_code 52 = .ok (.getfield 295, 3) := by decide +kernel
theorem dd_Mo_partOf_55 : decode prog_13_method_65_code 55 = .ok (.ifCond .eq 33, 3) := by decide +kernel
theorem dd_Mo_partOf_58 : decode prog_13_method_65_code 58 = .ok (.iload_n 2, 1) := by decide +kernel
theorem dd_Mo_partOf_59 : decode prog_13_method_65_code 59 = .ok (.bipush 19, 2) := by decide +kernel
theorem dd_Mo_partOf_61 : decode prog_13_method_65_code 61 = .ok (.if_icmp .ne 27, 3) := by decide +kernel
theorem dd_Mo_partOf_64 : decode prog_13_method_65_code 64 = .ok (.aload_n 0, 1) := by decide +kernel
theorem dd_Mo_partOf_65 : decode prog_13_method_65_code 65 = .ok (.getfield 32, 3) := by decide +kernel
theorem dd_Mo_partOf_68 : decode prog_13_method_65_code 68 = .ok (.sipush 3038, 3) := by decide +kernel
theorem dd_Mo_partOf_71 : decode prog_13_method_65_code 71 = .ok (.aload_n 0, 1) := by decide +kernel
theorem dd_Mo_partOf_72 : decode prog_13_method_65_code 72 = .ok (.getfield 265, 3) := by decide +kernel
theorem dd_Mo_partOf_75 : decode prog_13_method_65_code 75 = .ok (.iadd, 1) := by decide +kernel
theorem dd_Mo_partOf_76 : decode prog_13_method_65_code 76 = .ok (.iaload, 1) := by decide +kernel
theorem dd_Mo_partOf_77 : decode prog_13_method_65_code 77 = .ok (.istore_n 3, 1) := by decide +kernel
theorem dd_Mo_partOf_78 : decode prog_13_method_65_code 78 = .ok (.aload_n 0, 1) := by decide +kernel
theorem dd_Mo_partOf_79 : decode prog_13_method_65_code 79 = .ok (.dup, 1) := by decide +kernel
theorem dd_Mo_partOf_80 : decode prog_13_method_65_code 80 = .ok (.getfield 265, 3) := by decide +kernel
theorem dd_Mo_partOf_83 : decode prog_13_method_65_code 83 = .ok (.iconst 1, 1) := by decide +kernel
theorem dd_Mo_partOf_84 : decode prog_13_method_65_code 84 = .ok (.iadd, 1) := by decide +kernel
theorem dd_Mo_partOf_85 : decode prog_13_method_65_code 85 = .ok (.putfield 265, 3) := by decide +kernel
theorem dd_Mo_partOf_88 : decode prog_13_method_65_code 88 = .ok (.iload_n 1, 1) := by decide +kernel
theorem dd_Mo_partOf_89 : decode prog_13_method_65_code 89 = .ok (.ifCond .eq 10, 3) := by decide +kernel
theorem dd_Mo_partOf_92 : decode prog_13_method_65_code 92 = .ok (.aload_n 0, 1) := by decide +kernel
theorem dd_Mo_partOf_93 : decode prog_13_method_65_code 93 = .ok (.getfield 275, 3) := by decide +kernel
theorem dd_Mo_partOf_96 : decode prog_13_method_65_code 96 = .ok (.ifCond .eq 5, 3) := by decide +kernel
theorem dd_Mo_partOf_101 : decode prog_13_method_65_code 101 = .ok (.iload_n 2, 1) := by decide +kernel
theorem dd_Mo_partOf_102 : decode prog_13_method_65_code 102 = .ok (.bipush 50, 2) := by decide +kernel
theorem dd_Mo_partOf_104 : decode prog_13_method_65_code 104 = .ok (.if_icmp .ne 20, 3) := by decide +kernel
theorem dd_Mo_partOf_107 : decode prog_13_method_65_code 107 = .ok (.aload_n 0, 1) := by decide +kernel
theorem dd_Mo_partOf_108 : decode prog_13_method_65_code 108 = .ok (.getfield 32, 3) := by decide +kernel
theorem dd_Mo_partOf_111 : decode prog_13_method_65_code 111 = .ok (.sipush 3038, 3) := by decide +kernel
theorem dd_Mo_partOf_114 : decode prog_13_method_65_code 114 = .ok (.aload_n 0, 1) := by decide +kernel
theorem dd_Mo_partOf_115 : decode prog_13_method_65_code 115 = .ok (.getfield 265, 3) := by decide +kernel
theorem dd_Mo_partOf_118 : decode prog_13_method_65_code 118 = .ok (.iadd, 1) := by decide +kernel
theorem dd_Mo_partOf_119 : decode prog_13_method_65_code 119 = .ok (.iconst 1, 1) := by decide +kernel
theorem dd_Mo_partOf_120 : decode prog_13_method_65_code 120 = .ok (.isub, 1) := by decide +kernel
theorem dd_Mo_partOf_121 : decode prog_13_method_65_code 121 = .ok (.iaload, 1) := by decide +kernel
theorem dd_Mo_partOf_122 : decode prog_13_method_65_code 122 = .ok (.i2l, 1) := by decide +kernel
theorem dd_Mo_partOf_123 : decode prog_13_method_65_code 123 = .ok (.lreturn, 1) := by decide +kernel
theorem dd_Mo_partOf_124 : decode prog_13_method_65_code 124 = .ok (.aload_n 0, 1) := by decide +kernel
theorem dd_Mo_partOf_125 : decode prog_13_method_65_code 125 = .ok (.getfield 295, 3) := by decide +kernel
theorem dd_Mo_partOf_128 : decode prog_13_method_65_code 128 = .ok (.ifCond .eq 13, 3) := by decide +kernel
theorem dd_Mo_partOf_131 : decode prog_13_method_65_code 131 = .ok (.aload_n 0, 1) := by decide +kernel
theorem dd_Mo_partOf_132 : decode prog_13_method_65_code 132 = .ok (.iload_n 2, 1) := by decide +kernel
theorem dd_Mo_partOf_133 : decode prog_13_method_65_code 133 = .ok (.iload_n 3, 1) := by decide +kernel
theorem dd_Mo_partOf_134 : decode prog_13_method_65_code 134 = .ok (.invokevirtual 298, 3) := by decide +kernel
theorem dd_Mo_partOf_137 : decode prog_13_method_65_code 137 = .ok (.i2l, 1) := by decide +kernel
theorem dd_Mo_partOf_138 : decode prog_13_method_65_code 138 = .ok (.goto 13, 3) := by decide +kernel
theorem dd_Mo_partOf_141 : decode prog_13_method_65_code 141 = .ok (.aload_n 0, 1) := by decide +kernel
theorem dd_Mo_partOf_142 : decode prog_13_method_65_code 142 = .ok (.getfield 67, 3) := by decide +kernel
theorem dd_Mo_partOf_145 : decode prog_13_method_65_code 145 = .ok (.iload_n 2, 1) := by decide +kernel
theorem dd_Mo_partOf_146 : decode prog_13_method_65_code 146 = .ok (.bipush 7, 2) := by decide +kernel
theorem dd_Mo_partOf_148 : decode prog_13_method_65_code 148 = .ok (.isub, 1) := by decide +kernel
theorem dd_Mo_partOf_149 : decode prog_13_method_65_code 149 = .ok (.iaload, 1) := by decide +kernel
theorem dd_Mo_partOf_150 : decode prog_13_method_65_code 150 = .ok (.i2l, 1) := by decide +kernel
theorem dd_Mo_partOf_151 : decode prog_13_method_65_code 151 = .ok (.lreturn, 1) := by decide +kernel
theorem dd_Mo_partOf_99 : decode prog_13_method_65_code 99 = .ok (.lconst 0, 1) := by decide +kernel
theorem dd_Mo_partOf_100 : decode prog_13_method_65_code 100 = .ok (.lreturn, 1) := by decide +kernel
def jb_Mo_sumOf (R : Nat → Option Nat → Int32 → sf_M (Int64)) (p0 : Option Nat) (p1 : Int32) : sf_M (Int64) :=
  sf_bnd (sf_rc 11 p0 (R 1 p0 p1)) fun x1 =>
  sf_bnd (sf_loop (β := (Int64)) (γ := (Int64)) (fun b2 =>
  sf_bnd (sf_gI 11 22 p0) fun x3 =>
  sf_bnd (sf_rc 11 p0 (jx_Mo_codeAt p0 x3)) fun x4 =>
  sf_bnd (jx_Mo_sign (43 : Int32)) fun x5 =>
  sf_or (α := ((Int64) ⊕ (Int64))) (β := (Unit)) (
  if x4 = x5 then (
  sf_ret (.inr ())
  ) else (
  sf_bnd (sf_gI 11 22 p0) fun x7 =>
  sf_bnd (sf_rc 11 p0 (jx_Mo_codeAt p0 x7)) fun x8 =>
  sf_bnd (jx_Mo_sign (45 : Int32)) fun x9 =>
  if x8 = x9 then (
  sf_ret (.inr ())
  ) else (
  sf_ret (.inl (.inr b2))
  )
  )
  ) (fun v11 =>
  sf_bnd (sf_gI 11 22 p0) fun x12 =>
  sf_bnd (sf_rc 11 p0 (jx_Mo_codeAt p0 x12)) fun x13 =>
  sf_bnd (jx_Mo_sign (43 : Int32)) fun x14 =>
  sf_bnd (α := (Int32)) (
  if x13 = x14 then (
  sf_ret (1 : Int32)
  ) else (
  sf_ret (0 : Int32)
  )
  ) (fun v16 =>
  sf_bnd (sf_gI 11 22 p0) fun x17 =>
  sf_bnd (sf_pI 11 22 p0 (x17 + (1 : Int32))) fun _ =>
  sf_bnd (sf_rc 11 p0 (R 1 p0 p1)) fun x18 =>
  sf_bnd (α := (Int64)) (
  if v16 = 0 then (
  sf_ret (b2 - x18)
  ) else (
  sf_ret (b2 + x18)
  )
  ) (fun v20 =>
  sf_bnd (sf_rc 11 p0 (jx_Mo_bounded p0 v20 p1)) fun x21 =>
  sf_ret (.inl x21)
  )
  )
  )
  ) sf_fuel x1) (fun e22 =>
  sf_ret e22
  )
set_option maxRecDepth 20000 in
set_option maxHeartbeats 4000000 in
theorem okb_Mo_sumOf (n : Nat) (R : Nat → Option Nat → Int32 → sf_M (Int64)) (hR_Mo_termOf : ∀ (a0 : Option Nat) (a1 : Int32), sf_Ok ({ cls := "SplitFaresModel", name := "termOf", desc := "(Z)J" } : Jvm.MethodName) prog_13_method_64_code 7 (some .long) (3 + n) [sf_rv a0, .int a1] (R 1 a0 a1) (fun r => some (.long r))) (p0 : Option Nat) (p1 : Int32) : sf_Ok ({ cls := "SplitFaresModel", name := "sumOf", desc := "(Z)J" } : Jvm.MethodName) prog_13_method_63_code 7 (some .long) (3 + n + 1) [sf_rv p0, .int p1] (jb_Mo_sumOf R p0 p1) (fun r => some (.long r)) := by
  refine sf_Ok.of (env := [some (sf_rv p0), some (.int p1), none, none, none, none, none]) (plainFor_of_name (by decide)) [false, false] (fun G => ⟨pk_r, pk_i, trivial⟩) (Nat.le_of_ble_eq_true rfl) rfl (fun X => ?_)
  unfold jb_Mo_sumOf
  refine fp_aload_n (i := 0) (r := p0) dd_Mo_sumOf_0 rfl rfl (fr_pc (pc' := 1) rfl ?_)
  refine fp_iload_n (i := 1) (x := p1) dd_Mo_sumOf_1 rfl rfl (fr_pc (pc' := 2) rfl ?_)
  refine fr_callV (stk := []) (As := [.int p1]) cl_11 (hR_Mo_termOf p0 p1) mt_Mo_termOf rfl rfl sw_1453 sw_1455 sp_58 (by dsimp only [sf_deep]; omega) (Nat.le_of_ble_eq_true rfl) dd_Mo_sumOf_2 (fun x1 => fr_to (pc' := 5) (env' := [some (sf_rv p0), some (.int p1), none, none, none, none, none]) (stk' := [.long x1]) rfl rfl rfl ?_)
  refine fp_lstore_n (i := 2) dd_Mo_sumOf_5 rfl (Nat.le_of_ble_eq_true rfl) (fun _ => c1_i rfl) (fr_to (pc' := 6) (env' := [some (sf_rv p0), some (.int p1), some (.long x1), none, none, none, none]) (stk' := []) rfl rfl rfl ?_)
  refine fr_to (pc' := 6) (env' := [some (sf_rv p0), some (.int p1), some (.long x1), none, none, none, none]) (stk' := []) rfl rfl rfl ?_
  refine fr_bnd (l1 := (fun (e22 : (Int64)) => sf_p 103 [some (sf_rv p0), some (.int p1), some (.long e22), none, none, none, none] [])) (fr_loop (Lb := (fun (b2 : (Int64)) => sf_p 6 [some (sf_rv p0), some (.int p1), some (.long b2), none, none, none, none] [])) (fun b2 => ?_) _ _) (fun e22 => ?_)
  · refine fp_aload_n (i := 0) (r := p0) dd_Mo_sumOf_6 rfl rfl (fr_pc (pc' := 7) rfl ?_)
    refine fp_aload_n (i := 0) (r := p0) dd_Mo_sumOf_7 rfl rfl (fr_pc (pc' := 8) rfl ?_)
    refine fr_gI cl_11 22 (by decide) rfl sw_1094 dd_Mo_sumOf_8 (fun x3 => fr_pc (pc' := 11) rfl ?_)
    refine fr_callV (stk := []) (As := [.int x3]) cl_11 (ok_Mo_codeAt p0 x3) mt_Mo_codeAt rfl rfl sw_1445 sw_1447 sp_56 (by dsimp only [sf_deep]; omega) (Nat.le_of_ble_eq_true rfl) dd_Mo_sumOf_11 (fun x4 => fr_to (pc' := 14) (env' := [some (sf_rv p0), some (.int p1), some (.long b2), none, none, none, none]) (stk' := [.int x4]) rfl rfl rfl ?_)
    refine fp_bipush (v := (43 : Int32)) dd_Mo_sumOf_14 (by decide) (fr_pc (pc' := 16) rfl ?_)
    refine fr_callS (stk := [.int x4]) (ok_Mo_sign (43 : Int32)) mt_Mo_sign rfl rfl sw_1375 sw_1376 (by dsimp only [sf_deep]; omega) (Nat.le_of_ble_eq_true rfl) dd_Mo_sumOf_16 (fun x5 => fr_to (pc' := 19) (env' := [some (sf_rv p0), some (.int p1), some (.long b2), none, none, none, none]) (stk' := [.int x5, .int x4]) rfl rfl rfl ?_)
    refine fr_or (l1 := (fun (v11 : (Unit)) => sf_p 38 [some (sf_rv p0), some (.int p1), some (.long b2), none, none, none, none] [])) ?_ (fun v11 => ?_)
    · refine fr_icmp_eq (tgt := 38) dd_Mo_sumOf_19 rfl (fun _ => ?_) (fun _ => ?_)
      · exact fr_ret rfl
      · refine fr_pc (pc' := 22) rfl ?_
        refine fp_aload_n (i := 0) (r := p0) dd_Mo_sumOf_22 rfl rfl (fr_pc (pc' := 23) rfl ?_)
        refine fp_aload_n (i := 0) (r := p0) dd_Mo_sumOf_23 rfl rfl (fr_pc (pc' := 24) rfl ?_)
        refine fr_gI cl_11 22 (by decide) rfl sw_1094 dd_Mo_sumOf_24 (fun x7 => fr_pc (pc' := 27) rfl ?_)
        refine fr_callV (stk := []) (As := [.int x7]) cl_11 (ok_Mo_codeAt p0 x7) mt_Mo_codeAt rfl rfl sw_1445 sw_1447 sp_56 (by dsimp only [sf_deep]; omega) (Nat.le_of_ble_eq_true rfl) dd_Mo_sumOf_27 (fun x8 => fr_to (pc' := 30) (env' := [some (sf_rv p0), some (.int p1), some (.long b2), none, none, none, none]) (stk' := [.int x8]) rfl rfl rfl ?_)
        refine fp_bipush (v := (45 : Int32)) dd_Mo_sumOf_30 (by decide) (fr_pc (pc' := 32) rfl ?_)
        refine fr_callS (stk := [.int x8]) (ok_Mo_sign (45 : Int32)) mt_Mo_sign rfl rfl sw_1375 sw_1376 (by dsimp only [sf_deep]; omega) (Nat.le_of_ble_eq_true rfl) dd_Mo_sumOf_32 (fun x9 => fr_to (pc' := 35) (env' := [some (sf_rv p0), some (.int p1), some (.long b2), none, none, none, none]) (stk' := [.int x9, .int x8]) rfl rfl rfl ?_)
        refine fr_icmp_ne (tgt := 103) dd_Mo_sumOf_35 rfl (fun _ => ?_) (fun _ => ?_)
        · refine fr_pc (pc' := 38) rfl ?_
          exact fr_ret rfl
        · exact fr_ret rfl
    · refine fp_aload_n (i := 0) (r := p0) dd_Mo_sumOf_38 rfl rfl (fr_pc (pc' := 39) rfl ?_)
      refine fp_aload_n (i := 0) (r := p0) dd_Mo_sumOf_39 rfl rfl (fr_pc (pc' := 40) rfl ?_)
      refine fr_gI cl_11 22 (by decide) rfl sw_1094 dd_Mo_sumOf_40 (fun x12 => fr_pc (pc' := 43) rfl ?_)
      refine fr_callV (stk := []) (As := [.int x12]) cl_11 (ok_Mo_codeAt p0 x12) mt_Mo_codeAt rfl rfl sw_1445 sw_1447 sp_56 (by dsimp only [sf_deep]; omega) (Nat.le_of_ble_eq_true rfl) dd_Mo_sumOf_43 (fun x13 => fr_to (pc' := 46) (env' := [some (sf_rv p0), some (.int p1), some (.long b2), none, none, none, none]) (stk' := [.int x13]) rfl rfl rfl ?_)
      refine fp_bipush (v := (43 : Int32)) dd_Mo_sumOf_46 (by decide) (fr_pc (pc' := 48) rfl ?_)
      refine fr_callS (stk := [.int x13]) (ok_Mo_sign (43 : Int32)) mt_Mo_sign rfl rfl sw_1375 sw_1376 (by dsimp only [sf_deep]; omega) (Nat.le_of_ble_eq_true rfl) dd_Mo_sumOf_48 (fun x14 => fr_to (pc' := 51) (env' := [some (sf_rv p0), some (.int p1), some (.long b2), none, none, none, none]) (stk' := [.int x14, .int x13]) rfl rfl rfl ?_)
      refine fr_bnd (l1 := (fun (v16 : (Int32)) => sf_p 59 [some (sf_rv p0), some (.int p1), some (.long b2), none, none, none, none] [.int v16])) ?_ (fun v16 => ?_)
      · refine fr_icmp_ne (tgt := 58) dd_Mo_sumOf_51 rfl (fun _ => ?_) (fun _ => ?_)
        · refine fr_pc (pc' := 54) rfl ?_
          refine fp_iconst (v := (1 : Int32)) dd_Mo_sumOf_54 (by decide) (fr_pc (pc' := 55) rfl ?_)
          refine fp_goto (tgt := 59) dd_Mo_sumOf_55 rfl ?_
          exact fr_ret rfl
        · refine fp_iconst (v := (0 : Int32)) dd_Mo_sumOf_58 (by decide) (fr_pc (pc' := 59) rfl ?_)
          exact fr_ret rfl
      · refine fp_istore (i := 4) dd_Mo_sumOf_59 (Nat.le_of_ble_eq_true rfl) (fun _ => c1_n rfl) (fr_to (pc' := 61) (env' := [some (sf_rv p0), some (.int p1), some (.long b2), none, some (.int v16), none, none]) (stk' := []) rfl rfl rfl ?_)
        refine fp_aload_n (i := 0) (r := p0) dd_Mo_sumOf_61 rfl rfl (fr_pc (pc' := 62) rfl ?_)
        refine fp_dup_r dd_Mo_sumOf_62 (fr_pc (pc' := 63) rfl ?_)
        refine fr_gI cl_11 22 (by decide) rfl sw_1094 dd_Mo_sumOf_63 (fun x17 => fr_pc (pc' := 66) rfl ?_)
        refine fp_iconst (v := (1 : Int32)) dd_Mo_sumOf_66 (by decide) (fr_pc (pc' := 67) rfl ?_)
        refine fp_iadd dd_Mo_sumOf_67 (fr_pc (pc' := 68) rfl ?_)
        refine fr_pI cl_11 22 (by decide) rfl sw_1094 rfl ⟨rfl, rfl⟩ dd_Mo_sumOf_68 (fr_pc (pc' := 71) rfl ?_)
        refine fp_aload_n (i := 0) (r := p0) dd_Mo_sumOf_71 rfl rfl (fr_pc (pc' := 72) rfl ?_)
        refine fp_iload_n (i := 1) (x := p1) dd_Mo_sumOf_72 rfl rfl (fr_pc (pc' := 73) rfl ?_)
        refine fr_callV (stk := []) (As := [.int p1]) cl_11 (hR_Mo_termOf p0 p1) mt_Mo_termOf rfl rfl sw_1453 sw_1455 sp_58 (by dsimp only [sf_deep]; omega) (Nat.le_of_ble_eq_true rfl) dd_Mo_sumOf_73 (fun x18 => fr_to (pc' := 76) (env' := [some (sf_rv p0), some (.int p1), some (.long b2), none, some (.int v16), none, none]) (stk' := [.long x18]) rfl rfl rfl ?_)
        refine fp_lstore (i := 5) dd_Mo_sumOf_76 (Nat.le_of_ble_eq_true rfl) (fun _ => c1_i rfl) (fr_to (pc' := 78) (env' := [some (sf_rv p0), some (.int p1), some (.long b2), none, some (.int v16), some (.long x18), none]) (stk' := []) rfl rfl rfl ?_)
        refine fp_aload_n (i := 0) (r := p0) dd_Mo_sumOf_78 rfl rfl (fr_pc (pc' := 79) rfl ?_)
        refine fp_iload (i := 4) (x := v16) dd_Mo_sumOf_79 rfl (fr_pc (pc' := 81) rfl ?_)
        refine fr_bnd (l1 := (fun (v20 : (Int64)) => sf_p 95 [some (sf_rv p0), some (.int p1), some (.long b2), none, some (.int v16), some (.long x18), none] [.long v20, sf_rv p0])) ?_ (fun v20 => ?_)
        · refine fr_if_eq (tgt := 91) dd_Mo_sumOf_81 rfl (fun _ => ?_) (fun _ => ?_)
          · refine fp_lload_n (i := 2) (x := b2) dd_Mo_sumOf_91 rfl rfl (fr_pc (pc' := 92) rfl ?_)
            refine fp_lload (i := 5) (x := x18) dd_Mo_sumOf_92 rfl (fr_pc (pc' := 94) rfl ?_)
            refine fp_lsub dd_Mo_sumOf_94 (fr_pc (pc' := 95) rfl ?_)
            exact fr_ret rfl
          · refine fr_pc (pc' := 84) rfl ?_
            refine fp_lload_n (i := 2) (x := b2) dd_Mo_sumOf_84 rfl rfl (fr_pc (pc' := 85) rfl ?_)
            refine fp_lload (i := 5) (x := x18) dd_Mo_sumOf_85 rfl (fr_pc (pc' := 87) rfl ?_)
            refine fp_ladd dd_Mo_sumOf_87 (fr_pc (pc' := 88) rfl ?_)
            refine fp_goto (tgt := 95) dd_Mo_sumOf_88 rfl ?_
            exact fr_ret rfl
        · refine fp_iload_n (i := 1) (x := p1) dd_Mo_sumOf_95 rfl rfl (fr_pc (pc' := 96) rfl ?_)
          refine fr_callV (stk := []) (As := [.long v20, .int p1]) cl_11 (ok_Mo_bounded p0 v20 p1) mt_Mo_bounded rfl rfl sw_1477 sw_1479 sp_64 (by dsimp only [sf_deep]; omega) (Nat.le_of_ble_eq_true rfl) dd_Mo_sumOf_96 (fun x21 => fr_to (pc' := 99) (env' := [some (sf_rv p0), some (.int p1), some (.long b2), none, some (.int v16), some (.long x18), none]) (stk' := [.long x21]) rfl rfl rfl ?_)
          refine fp_lstore_n (i := 2) dd_Mo_sumOf_99 rfl (Nat.le_of_ble_eq_true rfl) (fun _ => c1_i rfl) (fr_to (pc' := 100) (env' := [some (sf_rv p0), some (.int p1), some (.long x21), none, some (.int v16), some (.long x18), none]) (stk' := []) rfl rfl rfl ?_)
          refine fp_goto (tgt := 6) dd_Mo_sumOf_100 rfl ?_
          refine fr_wk [true, true, true, false, false, false, false] ?_
          exact fr_ret rfl
  · refine fp_lload_n (i := 2) (x := e22) dd_Mo_sumOf_103 rfl rfl (fr_pc (pc' := 104) rfl ?_)
    exact fr_lret (v := e22) rfl rfl dd_Mo_sumOf_104
def jb_Mo_termOf (R : Nat → Option Nat → Int32 → sf_M (Int64)) (p0 : Option Nat) (p1 : Int32) : sf_M (Int64) :=
  sf_bnd (sf_rc 11 p0 (R 2 p0 p1)) fun x1 =>
  sf_bnd (sf_loop (β := (Int64)) (γ := (Int64)) (fun b2 =>
  sf_bnd (sf_gI 11 22 p0) fun x3 =>
  sf_bnd (sf_rc 11 p0 (jx_Mo_codeAt p0 x3)) fun x4 =>
  sf_bnd (jx_Mo_sign (42 : Int32)) fun x5 =>
  sf_or (α := ((Int64) ⊕ (Int64))) (β := (Unit)) (
  if x4 = x5 then (
  sf_ret (.inr ())
  ) else (
  sf_bnd (sf_gI 11 22 p0) fun x7 =>
  sf_bnd (sf_rc 11 p0 (jx_Mo_codeAt p0 x7)) fun x8 =>
  sf_bnd (jx_Mo_sign (47 : Int32)) fun x9 =>
  if x8 = x9 then (
  sf_ret (.inr ())
  ) else (
  sf_bnd (sf_gI 11 22 p0) fun x11 =>
  sf_bnd (sf_rc 11 p0 (jx_Mo_codeAt p0 x11)) fun x12 =>
  sf_bnd (jx_Mo_sign (37 : Int32)) fun x13 =>
  if x12 = x13 then (
  sf_ret (.inr ())
  ) else (
  sf_ret (.inl (.inr b2))
  )
  )
  )
  ) (fun v15 =>
  sf_bnd (sf_gI 11 22 p0) fun x16 =>
  sf_bnd (sf_rc 11 p0 (jx_Mo_codeAt p0 x16)) fun x17 =>
  sf_bnd (sf_gI 11 22 p0) fun x18 =>
  sf_bnd (sf_pI 11 22 p0 (x18 + (1 : Int32))) fun _ =>
  sf_bnd (sf_rc 11 p0 (R 2 p0 p1)) fun x19 =>
  sf_bnd (jx_Mo_sign (42 : Int32)) fun x20 =>
  sf_bnd (α := (Int64)) (
  if x17 = x20 then (
  sf_ret x19
  ) else (
  if (lg_cmp x19 (0 : Int64)) = 0 then (
  sf_bnd (sf_gI 11 24 p0) fun x23 =>
  sf_bnd (α := (Int32)) (
  sf_or (α := (Int32)) (β := (Unit)) (
  if x23 = 0 then (
  if p1 = 0 then (
  sf_ret (.inl (0 : Int32))
  ) else (
  sf_ret (.inr ())
  )
  ) else (
  sf_ret (.inr ())
  )
  ) (fun v26 =>
  sf_ret (1 : Int32)
  )
  ) (fun v27 =>
  sf_bnd (sf_pZ 11 24 p0 v27) fun _ =>
  sf_ret (1 : Int64)
  )
  ) else (
  sf_ret x19
  )
  )
  ) (fun v28 =>
  sf_bnd (jx_Mo_sign (42 : Int32)) fun x29 =>
  sf_bnd (α := (Int64)) (
  if x17 = x29 then (
  sf_ret (b2 * v28)
  ) else (
  sf_bnd (jx_Mo_sign (47 : Int32)) fun x31 =>
  if x17 = x31 then (
  sf_bnd (sf_dvL b2 v28) fun x33 =>
  sf_ret x33
  ) else (
  sf_bnd (sf_rmL b2 v28) fun x34 =>
  sf_ret x34
  )
  )
  ) (fun v35 =>
  sf_bnd (sf_rc 11 p0 (jx_Mo_bounded p0 v35 p1)) fun x36 =>
  sf_ret (.inl x36)
  )
  )
  )
  ) sf_fuel x1) (fun e37 =>
  sf_ret e37
  )
set_option maxRecDepth 20000 in
set_option maxHeartbeats 4000000 in
theorem okb_Mo_termOf (n : Nat) (R : Nat → Option Nat → Int32 → sf_M (Int64)) (hR_Mo_partOf : ∀ (a0 : Option Nat) (a1 : Int32), sf_Ok ({ cls := "SplitFaresModel", name := "partOf", desc := "(Z)J" } : Jvm.MethodName) prog_13_method_65_code 4 (some .long) (3 + n) [sf_rv a0, .int a1] (R 2 a0 a1) (fun r => some (.long r))) (p0 : Option Nat) (p1 : Int32) : sf_Ok ({ cls := "SplitFaresModel", name := "termOf", desc := "(Z)J" } : Jvm.MethodName) prog_13_method_64_code 7 (some .long) (3 + n + 1) [sf_rv p0, .int p1] (jb_Mo_termOf R p0 p1) (fun r => some (.long r)) := by
  refine sf_Ok.of (env := [some (sf_rv p0), some (.int p1), none, none, none, none, none]) (plainFor_of_name (by decide)) [false, false] (fun G => ⟨pk_r, pk_i, trivial⟩) (Nat.le_of_ble_eq_true rfl) rfl (fun X => ?_)
  unfold jb_Mo_termOf
  refine fp_aload_n (i := 0) (r := p0) dd_Mo_termOf_0 rfl rfl (fr_pc (pc' := 1) rfl ?_)
  refine fp_iload_n (i := 1) (x := p1) dd_Mo_termOf_1 rfl rfl (fr_pc (pc' := 2) rfl ?_)
  refine fr_callV (stk := []) (As := [.int p1]) cl_11 (hR_Mo_partOf p0 p1) mt_Mo_partOf rfl rfl sw_1457 sw_1459 sp_59 (by dsimp only [sf_deep]; omega) (Nat.le_of_ble_eq_true rfl) dd_Mo_termOf_2 (fun x1 => fr_to (pc' := 5) (env' := [some (sf_rv p0), some (.int p1), none, none, none, none, none]) (stk' := [.long x1]) rfl rfl rfl ?_)
  refine fp_lstore_n (i := 2) dd_Mo_termOf_5 rfl (Nat.le_of_ble_eq_true rfl) (fun _ => c1_i rfl) (fr_to (pc' := 6) (env' := [some (sf_rv p0), some (.int p1), some (.long x1), none, none, none, none]) (stk' := []) rfl rfl rfl ?_)
  refine fr_to (pc' := 6) (env' := [some (sf_rv p0), some (.int p1), some (.long x1), none, none, none, none]) (stk' := []) rfl rfl rfl ?_
  refine fr_bnd (l1 := (fun (e37 : (Int64)) => sf_p 168 [some (sf_rv p0), some (.int p1), some (.long e37), none, none, none, none] [])) (fr_loop (Lb := (fun (b2 : (Int64)) => sf_p 6 [some (sf_rv p0), some (.int p1), some (.long b2), none, none, none, none] [])) (fun b2 => ?_) _ _) (fun e37 => ?_)
  · refine fp_aload_n (i := 0) (r := p0) dd_Mo_termOf_6 rfl rfl (fr_pc (pc' := 7) rfl ?_)
    refine fp_aload_n (i := 0) (r := p0) dd_Mo_termOf_7 rfl rfl (fr_pc (pc' := 8) rfl ?_)
    refine fr_gI cl_11 22 (by decide) rfl sw_1094 dd_Mo_termOf_8 (fun x3 => fr_pc (pc' := 11) rfl ?_)
    refine fr_callV (stk := []) (As := [.int x3]) cl_11 (ok_Mo_codeAt p0 x3) mt_Mo_codeAt rfl rfl sw_1445 sw_1447 sp_56 (by dsimp only [sf_deep]; omega) (Nat.le_of_ble_eq_true rfl) dd_Mo_termOf_11 (fun x4 => fr_to (pc' := 14) (env' := [some (sf_rv p0), some (.int p1), some (.long b2), none, none, none, none]) (stk' := [.int x4]) rfl rfl rfl ?_)
    refine fp_bipush (v := (42 : Int32)) dd_Mo_termOf_14 (by decide) (fr_pc (pc' := 16) rfl ?_)
    refine fr_callS (stk := [.int x4]) (ok_Mo_sign (42 : Int32)) mt_Mo_sign rfl rfl sw_1375 sw_1376 (by dsimp only [sf_deep]; omega) (Nat.le_of_ble_eq_true rfl) dd_Mo_termOf_16 (fun x5 => fr_to (pc' := 19) (env' := [some (sf_rv p0), some (.int p1), some (.long b2), none, none, none, none]) (stk' := [.int x5, .int x4]) rfl rfl rfl ?_)
    refine fr_or (l1 := (fun (v15 : (Unit)) => sf_p 54 [some (sf_rv p0), some (.int p1), some (.long b2), none, none, none, none] [])) ?_ (fun v15 => ?_)
    · refine fr_icmp_eq (tgt := 54) dd_Mo_termOf_19 rfl (fun _ => ?_) (fun _ => ?_)
      · exact fr_ret rfl
      · refine fr_pc (pc' := 22) rfl ?_
        refine fp_aload_n (i := 0) (r := p0) dd_Mo_termOf_22 rfl rfl (fr_pc (pc' := 23) rfl ?_)
        refine fp_aload_n (i := 0) (r := p0) dd_Mo_termOf_23 rfl rfl (fr_pc (pc' := 24) rfl ?_)
        refine fr_gI cl_11 22 (by decide) rfl sw_1094 dd_Mo_termOf_24 (fun x7 => fr_pc (pc' := 27) rfl ?_)
        refine fr_callV (stk := []) (As := [.int x7]) cl_11 (ok_Mo_codeAt p0 x7) mt_Mo_codeAt rfl rfl sw_1445 sw_1447 sp_56 (by dsimp only [sf_deep]; omega) (Nat.le_of_ble_eq_true rfl) dd_Mo_termOf_27 (fun x8 => fr_to (pc' := 30) (env' := [some (sf_rv p0), some (.int p1), some (.long b2), none, none, none, none]) (stk' := [.int x8]) rfl rfl rfl ?_)
        refine fp_bipush (v := (47 : Int32)) dd_Mo_termOf_30 (by decide) (fr_pc (pc' := 32) rfl ?_)
        refine fr_callS (stk := [.int x8]) (ok_Mo_sign (47 : Int32)) mt_Mo_sign rfl rfl sw_1375 sw_1376 (by dsimp only [sf_deep]; omega) (Nat.le_of_ble_eq_true rfl) dd_Mo_termOf_32 (fun x9 => fr_to (pc' := 35) (env' := [some (sf_rv p0), some (.int p1), some (.long b2), none, none, none, none]) (stk' := [.int x9, .int x8]) rfl rfl rfl ?_)
        refine fr_icmp_eq (tgt := 54) dd_Mo_termOf_35 rfl (fun _ => ?_) (fun _ => ?_)
        · exact fr_ret rfl
        · refine fr_pc (pc' := 38) rfl ?_
          refine fp_aload_n (i := 0) (r := p0) dd_Mo_termOf_38 rfl rfl (fr_pc (pc' := 39) rfl ?_)
          refine fp_aload_n (i := 0) (r := p0) dd_Mo_termOf_39 rfl rfl (fr_pc (pc' := 40) rfl ?_)
          refine fr_gI cl_11 22 (by decide) rfl sw_1094 dd_Mo_termOf_40 (fun x11 => fr_pc (pc' := 43) rfl ?_)
          refine fr_callV (stk := []) (As := [.int x11]) cl_11 (ok_Mo_codeAt p0 x11) mt_Mo_codeAt rfl rfl sw_1445 sw_1447 sp_56 (by dsimp only [sf_deep]; omega) (Nat.le_of_ble_eq_true rfl) dd_Mo_termOf_43 (fun x12 => fr_to (pc' := 46) (env' := [some (sf_rv p0), some (.int p1), some (.long b2), none, none, none, none]) (stk' := [.int x12]) rfl rfl rfl ?_)
          refine fp_bipush (v := (37 : Int32)) dd_Mo_termOf_46 (by decide) (fr_pc (pc' := 48) rfl ?_)
          refine fr_callS (stk := [.int x12]) (ok_Mo_sign (37 : Int32)) mt_Mo_sign rfl rfl sw_1375 sw_1376 (by dsimp only [sf_deep]; omega) (Nat.le_of_ble_eq_true rfl) dd_Mo_termOf_48 (fun x13 => fr_to (pc' := 51) (env' := [some (sf_rv p0), some (.int p1), some (.long b2), none, none, none, none]) (stk' := [.int x13, .int x12]) rfl rfl rfl ?_)
          refine fr_icmp_ne (tgt := 168) dd_Mo_termOf_51 rfl (fun _ => ?_) (fun _ => ?_)
          · refine fr_pc (pc' := 54) rfl ?_
            exact fr_ret rfl
          · exact fr_ret rfl
    · refine fp_aload_n (i := 0) (r := p0) dd_Mo_termOf_54 rfl rfl (fr_pc (pc' := 55) rfl ?_)
      refine fp_aload_n (i := 0) (r := p0) dd_Mo_termOf_55 rfl rfl (fr_pc (pc' := 56) rfl ?_)
      refine fr_gI cl_11 22 (by decide) rfl sw_1094 dd_Mo_termOf_56 (fun x16 => fr_pc (pc' := 59) rfl ?_)
      refine fr_callV (stk := []) (As := [.int x16]) cl_11 (ok_Mo_codeAt p0 x16) mt_Mo_codeAt rfl rfl sw_1445 sw_1447 sp_56 (by dsimp only [sf_deep]; omega) (Nat.le_of_ble_eq_true rfl) dd_Mo_termOf_59 (fun x17 => fr_to (pc' := 62) (env' := [some (sf_rv p0), some (.int p1), some (.long b2), none, none, none, none]) (stk' := [.int x17]) rfl rfl rfl ?_)
      refine fp_istore (i := 4) dd_Mo_termOf_62 (Nat.le_of_ble_eq_true rfl) (fun _ => c1_n rfl) (fr_to (pc' := 64) (env' := [some (sf_rv p0), some (.int p1), some (.long b2), none, some (.int x17), none, none]) (stk' := []) rfl rfl rfl ?_)
      refine fp_aload_n (i := 0) (r := p0) dd_Mo_termOf_64 rfl rfl (fr_pc (pc' := 65) rfl ?_)
      refine fp_dup_r dd_Mo_termOf_65 (fr_pc (pc' := 66) rfl ?_)
      refine fr_gI cl_11 22 (by decide) rfl sw_1094 dd_Mo_termOf_66 (fun x18 => fr_pc (pc' := 69) rfl ?_)
      refine fp_iconst (v := (1 : Int32)) dd_Mo_termOf_69 (by decide) (fr_pc (pc' := 70) rfl ?_)
      refine fp_iadd dd_Mo_termOf_70 (fr_pc (pc' := 71) rfl ?_)
      refine fr_pI cl_11 22 (by decide) rfl sw_1094 rfl ⟨rfl, rfl⟩ dd_Mo_termOf_71 (fr_pc (pc' := 74) rfl ?_)
      refine fp_aload_n (i := 0) (r := p0) dd_Mo_termOf_74 rfl rfl (fr_pc (pc' := 75) rfl ?_)
      refine fp_iload_n (i := 1) (x := p1) dd_Mo_termOf_75 rfl rfl (fr_pc (pc' := 76) rfl ?_)
      refine fr_callV (stk := []) (As := [.int p1]) cl_11 (hR_Mo_partOf p0 p1) mt_Mo_partOf rfl rfl sw_1457 sw_1459 sp_59 (by dsimp only [sf_deep]; omega) (Nat.le_of_ble_eq_true rfl) dd_Mo_termOf_76 (fun x19 => fr_to (pc' := 79) (env' := [some (sf_rv p0), some (.int p1), some (.long b2), none, some (.int x17), none, none]) (stk' := [.long x19]) rfl rfl rfl ?_)
      refine fp_lstore (i := 5) dd_Mo_termOf_79 (Nat.le_of_ble_eq_true rfl) (fun _ => c1_i rfl) (fr_to (pc' := 81) (env' := [some (sf_rv p0), some (.int p1), some (.long b2), none, some (.int x17), some (.long x19), none]) (stk' := []) rfl rfl rfl ?_)
      refine fp_iload (i := 4) (x := x17) dd_Mo_termOf_81 rfl (fr_pc (pc' := 83) rfl ?_)
      refine fp_bipush (v := (42 : Int32)) dd_Mo_termOf_83 (by decide) (fr_pc (pc' := 85) rfl ?_)
      refine fr_callS (stk := [.int x17]) (ok_Mo_sign (42 : Int32)) mt_Mo_sign rfl rfl sw_1375 sw_1376 (by dsimp only [sf_deep]; omega) (Nat.le_of_ble_eq_true rfl) dd_Mo_termOf_85 (fun x20 => fr_to (pc' := 88) (env' := [some (sf_rv p0), some (.int p1), some (.long b2), none, some (.int x17), some (.long x19), none]) (stk' := [.int x20, .int x17]) rfl rfl rfl ?_)
      refine fr_bnd (l1 := (fun (v28 : (Int64)) => sf_p 121 [some (sf_rv p0), some (.int p1), some (.long b2), none, some (.int x17), some (.long v28), none] [])) ?_ (fun v28 => ?_)
      · refine fr_icmp_eq (tgt := 121) dd_Mo_termOf_88 rfl (fun _ => ?_) (fun _ => ?_)
        · exact fr_ret rfl
        · refine fr_pc (pc' := 91) rfl ?_
          refine fp_lload (i := 5) (x := x19) dd_Mo_termOf_91 rfl (fr_pc (pc' := 93) rfl ?_)
          refine fp_lconst (v := (0 : Int64)) dd_Mo_termOf_93 (by decide) (fr_pc (pc' := 94) rfl ?_)
          refine fp_lcmp dd_Mo_termOf_94 (fr_pc (pc' := 95) rfl ?_)
          refine fr_if_ne (tgt := 121) dd_Mo_termOf_95 rfl (fun _ => ?_) (fun _ => ?_)
          · refine fr_pc (pc' := 98) rfl ?_
            refine fp_aload_n (i := 0) (r := p0) dd_Mo_termOf_98 rfl rfl (fr_pc (pc' := 99) rfl ?_)
            refine fp_aload_n (i := 0) (r := p0) dd_Mo_termOf_99 rfl rfl (fr_pc (pc' := 100) rfl ?_)
            refine fr_gI cl_11 24 (by decide) rfl sw_1096 dd_Mo_termOf_100 (fun x23 => fr_pc (pc' := 103) rfl ?_)
            refine fr_bnd (l1 := (fun (v27 : (Int32)) => sf_p 115 [some (sf_rv p0), some (.int p1), some (.long b2), none, some (.int x17), some (.long x19), none] [.int v27, sf_rv p0])) ?_ (fun v27 => ?_)
            · refine fr_or (l1 := (fun (v26 : (Unit)) => sf_p 110 [some (sf_rv p0), some (.int p1), some (.long b2), none, some (.int x17), some (.long x19), none] [sf_rv p0])) ?_ (fun v26 => ?_)
              · refine fr_if_ne (tgt := 110) dd_Mo_termOf_103 rfl (fun _ => ?_) (fun _ => ?_)
                · refine fr_pc (pc' := 106) rfl ?_
                  refine fp_iload_n (i := 1) (x := p1) dd_Mo_termOf_106 rfl rfl (fr_pc (pc' := 107) rfl ?_)
                  refine fr_if_eq (tgt := 114) dd_Mo_termOf_107 rfl (fun _ => ?_) (fun _ => ?_)
                  · refine fp_iconst (v := (0 : Int32)) dd_Mo_termOf_114 (by decide) (fr_pc (pc' := 115) rfl ?_)
                    exact fr_ret rfl
                  · refine fr_pc (pc' := 110) rfl ?_
                    exact fr_ret rfl
                · exact fr_ret rfl
              · refine fp_iconst (v := (1 : Int32)) dd_Mo_termOf_110 (by decide) (fr_pc (pc' := 111) rfl ?_)
                refine fp_goto (tgt := 115) dd_Mo_termOf_111 rfl ?_
                exact fr_ret rfl
            · refine fr_pZ cl_11 24 (by decide) rfl sw_1096 rfl rfl dd_Mo_termOf_115 (fr_pc (pc' := 118) rfl ?_)
              refine fp_lconst (v := (1 : Int64)) dd_Mo_termOf_118 (by decide) (fr_pc (pc' := 119) rfl ?_)
              refine fp_lstore (i := 5) dd_Mo_termOf_119 (Nat.le_of_ble_eq_true rfl) (fun _ => c1_i rfl) (fr_to (pc' := 121) (env' := [some (sf_rv p0), some (.int p1), some (.long b2), none, some (.int x17), some (.long (1 : Int64)), none]) (stk' := []) rfl rfl rfl ?_)
              exact fr_ret rfl
          · exact fr_ret rfl
      · refine fp_aload_n (i := 0) (r := p0) dd_Mo_termOf_121 rfl rfl (fr_pc (pc' := 122) rfl ?_)
        refine fp_iload (i := 4) (x := x17) dd_Mo_termOf_122 rfl (fr_pc (pc' := 124) rfl ?_)
        refine fp_bipush (v := (42 : Int32)) dd_Mo_termOf_124 (by decide) (fr_pc (pc' := 126) rfl ?_)
        refine fr_callS (stk := [.int x17, sf_rv p0]) (ok_Mo_sign (42 : Int32)) mt_Mo_sign rfl rfl sw_1375 sw_1376 (by dsimp only [sf_deep]; omega) (Nat.le_of_ble_eq_true rfl) dd_Mo_termOf_126 (fun x29 => fr_to (pc' := 129) (env' := [some (sf_rv p0), some (.int p1), some (.long b2), none, some (.int x17), some (.long v28), none]) (stk' := [.int x29, .int x17, sf_rv p0]) rfl rfl rfl ?_)
        refine fr_bnd (l1 := (fun (v35 : (Int64)) => sf_p 160 [some (sf_rv p0), some (.int p1), some (.long b2), none, some (.int x17), some (.long v28), none] [.long v35, sf_rv p0])) ?_ (fun v35 => ?_)
        · refine fr_icmp_ne (tgt := 139) dd_Mo_termOf_129 rfl (fun _ => ?_) (fun _ => ?_)
          · refine fr_pc (pc' := 132) rfl ?_
            refine fp_lload_n (i := 2) (x := b2) dd_Mo_termOf_132 rfl rfl (fr_pc (pc' := 133) rfl ?_)
            refine fp_lload (i := 5) (x := v28) dd_Mo_termOf_133 rfl (fr_pc (pc' := 135) rfl ?_)
            refine fp_lmul dd_Mo_termOf_135 (fr_pc (pc' := 136) rfl ?_)
            refine fp_goto (tgt := 160) dd_Mo_termOf_136 rfl ?_
            exact fr_ret rfl
          · refine fp_iload (i := 4) (x := x17) dd_Mo_termOf_139 rfl (fr_pc (pc' := 141) rfl ?_)
            refine fp_bipush (v := (47 : Int32)) dd_Mo_termOf_141 (by decide) (fr_pc (pc' := 143) rfl ?_)
            refine fr_callS (stk := [.int x17, sf_rv p0]) (ok_Mo_sign (47 : Int32)) mt_Mo_sign rfl rfl sw_1375 sw_1376 (by dsimp only [sf_deep]; omega) (Nat.le_of_ble_eq_true rfl) dd_Mo_termOf_143 (fun x31 => fr_to (pc' := 146) (env' := [some (sf_rv p0), some (.int p1), some (.long b2), none, some (.int x17), some (.long v28), none]) (stk' := [.int x31, .int x17, sf_rv p0]) rfl rfl rfl ?_)
            refine fr_icmp_ne (tgt := 156) dd_Mo_termOf_146 rfl (fun _ => ?_) (fun _ => ?_)
            · refine fr_pc (pc' := 149) rfl ?_
              refine fp_lload_n (i := 2) (x := b2) dd_Mo_termOf_149 rfl rfl (fr_pc (pc' := 150) rfl ?_)
              refine fp_lload (i := 5) (x := v28) dd_Mo_termOf_150 rfl (fr_pc (pc' := 152) rfl ?_)
              refine fr_dvL dd_Mo_termOf_152 (fun x33 => fr_pc (pc' := 153) rfl ?_)
              refine fp_goto (tgt := 160) dd_Mo_termOf_153 rfl ?_
              exact fr_ret rfl
            · refine fp_lload_n (i := 2) (x := b2) dd_Mo_termOf_156 rfl rfl (fr_pc (pc' := 157) rfl ?_)
              refine fp_lload (i := 5) (x := v28) dd_Mo_termOf_157 rfl (fr_pc (pc' := 159) rfl ?_)
              refine fr_rmL dd_Mo_termOf_159 (fun x34 => fr_pc (pc' := 160) rfl ?_)
              exact fr_ret rfl
        · refine fp_iload_n (i := 1) (x := p1) dd_Mo_termOf_160 rfl rfl (fr_pc (pc' := 161) rfl ?_)
          refine fr_callV (stk := []) (As := [.long v35, .int p1]) cl_11 (ok_Mo_bounded p0 v35 p1) mt_Mo_bounded rfl rfl sw_1477 sw_1479 sp_64 (by dsimp only [sf_deep]; omega) (Nat.le_of_ble_eq_true rfl) dd_Mo_termOf_161 (fun x36 => fr_to (pc' := 164) (env' := [some (sf_rv p0), some (.int p1), some (.long b2), none, some (.int x17), some (.long v28), none]) (stk' := [.long x36]) rfl rfl rfl ?_)
          refine fp_lstore_n (i := 2) dd_Mo_termOf_164 rfl (Nat.le_of_ble_eq_true rfl) (fun _ => c1_i rfl) (fr_to (pc' := 165) (env' := [some (sf_rv p0), some (.int p1), some (.long x36), none, some (.int x17), some (.long v28), none]) (stk' := []) rfl rfl rfl ?_)
          refine fp_goto (tgt := 6) dd_Mo_termOf_165 rfl ?_
          refine fr_wk [true, true, true, false, false, false, false] ?_
          exact fr_ret rfl
  · refine fp_lload_n (i := 2) (x := e37) dd_Mo_termOf_168 rfl rfl (fr_pc (pc' := 169) rfl ?_)
    exact fr_lret (v := e37) rfl rfl dd_Mo_termOf_169
def jb_Mo_partOf (R : Nat → Option Nat → Int32 → sf_M (Int64)) (p0 : Option Nat) (p1 : Int32) : sf_M (Int64) :=
  sf_bnd (jx_Mo_sign (91 : Int32)) fun x1 =>
  sf_bnd (sf_rc 11 p0 (jx_Mo_passes0 p0 x1)) fun x2 =>
  if x2 = 0 then (
  sf_bnd (sf_gI 11 22 p0) fun x4 =>
  sf_bnd (sf_rc 11 p0 (jx_Mo_codeAt p0 x4)) fun x5 =>
  sf_bnd (sf_gI 11 22 p0) fun x6 =>
  sf_bnd (sf_pI 11 22 p0 (x6 + (1 : Int32))) fun _ =>
  sf_bnd (sf_gI 11 25 p0) fun x7 =>
  sf_bnd (α := (Int32)) (
  if x7 = 0 then (
  sf_ret (0 : Int32)
  ) else (
  if x5 = (19 : Int32) then (
  sf_bnd (sf_gR 11 2 p0) fun x10 =>
  sf_bnd (sf_gI 11 22 p0) fun x11 =>
  sf_bnd (sf_aI 0 x10 ((3038 : Int32) + x11)) fun x12 =>
  sf_bnd (sf_gI 11 22 p0) fun x13 =>
  sf_bnd (sf_pI 11 22 p0 (x13 + (1 : Int32))) fun _ =>
  sf_ret x12
  ) else (
  sf_ret (0 : Int32)
  )
  )
  ) (fun v14 =>
  if p1 = 0 then (
  sf_ret (0 : Int64)
  ) else (
  sf_bnd (sf_gI 11 24 p0) fun x16 =>
  if x16 = 0 then (
  if x5 = (50 : Int32) then (
  sf_bnd (sf_gR 11 2 p0) fun x19 =>
  sf_bnd (sf_gI 11 22 p0) fun x20 =>
  sf_bnd (sf_aI 0 x19 (((3038 : Int32) + x20) - (1 : Int32))) fun x21 =>
  sf_ret x21.toInt64
  ) else (
  sf_bnd (sf_gI 11 25 p0) fun x22 =>
  if x22 = 0 then (
  sf_bnd (sf_gR 11 26 p0) fun x24 =>
  sf_bnd (sf_aI 0 x24 (x5 - (7 : Int32))) fun x25 =>
  sf_ret x25.toInt64
  ) else (
  sf_bnd (sf_rc 11 p0 (jx_Mo_orderValue p0 x5 v14)) fun x26 =>
  sf_ret x26.toInt64
  )
  )
  ) else (
  sf_ret (0 : Int64)
  )
  )
  )
  ) else (
  sf_bnd (sf_rc 11 p0 (R 0 p0 p1)) fun x27 =>
  sf_bnd (sf_gI 11 22 p0) fun x28 =>
  sf_bnd (sf_pI 11 22 p0 (x28 + (1 : Int32))) fun _ =>
  sf_ret x27
  )
set_option maxRecDepth 20000 in
set_option maxHeartbeats 4000000 in
theorem okb_Mo_partOf (n : Nat) (R : Nat → Option Nat → Int32 → sf_M (Int64)) (hR_Mo_sumOf : ∀ (a0 : Option Nat) (a1 : Int32), sf_Ok ({ cls := "SplitFaresModel", name := "sumOf", desc := "(Z)J" } : Jvm.MethodName) prog_13_method_63_code 7 (some .long) (3 + n) [sf_rv a0, .int a1] (R 0 a0 a1) (fun r => some (.long r))) (p0 : Option Nat) (p1 : Int32) : sf_Ok ({ cls := "SplitFaresModel", name := "partOf", desc := "(Z)J" } : Jvm.MethodName) prog_13_method_65_code 4 (some .long) (3 + n + 1) [sf_rv p0, .int p1] (jb_Mo_partOf R p0 p1) (fun r => some (.long r)) := by
  refine sf_Ok.of (env := [some (sf_rv p0), some (.int p1), none, none]) (plainFor_of_name (by decide)) [false, false] (fun G => ⟨pk_r, pk_i, trivial⟩) (Nat.le_of_ble_eq_true rfl) rfl (fun X => ?_)
  unfold jb_Mo_partOf
  refine fp_aload_n (i := 0) (r := p0) dd_Mo_partOf_0 rfl rfl (fr_pc (pc' := 1) rfl ?_)
  refine fp_bipush (v := (91 : Int32)) dd_Mo_partOf_1 (by decide) (fr_pc (pc' := 3) rfl ?_)
  refine fr_callS (stk := [sf_rv p0]) (ok_Mo_sign (91 : Int32)) mt_Mo_sign rfl rfl sw_1375 sw_1376 (by dsimp only [sf_deep]; omega) (Nat.le_of_ble_eq_true rfl) dd_Mo_partOf_3 (fun x1 => fr_to (pc' := 6) (env' := [some (sf_rv p0), some (.int p1), none, none]) (stk' := [.int x1, sf_rv p0]) rfl rfl rfl ?_)
  refine fr_callV (stk := []) (As := [.int x1]) cl_11 (ok_Mo_passes0 p0 x1) mt_Mo_passes0 rfl rfl sw_1461 sw_1463 sp_60 (by dsimp only [sf_deep]; omega) (Nat.le_of_ble_eq_true rfl) dd_Mo_partOf_6 (fun x2 => fr_to (pc' := 9) (env' := [some (sf_rv p0), some (.int p1), none, none]) (stk' := [.int x2]) rfl rfl rfl ?_)
  refine fr_if_eq (tgt := 30) dd_Mo_partOf_9 rfl (fun _ => ?_) (fun _ => ?_)
  · refine fp_aload_n (i := 0) (r := p0) dd_Mo_partOf_30 rfl rfl (fr_pc (pc' := 31) rfl ?_)
    refine fp_aload_n (i := 0) (r := p0) dd_Mo_partOf_31 rfl rfl (fr_pc (pc' := 32) rfl ?_)
    refine fr_gI cl_11 22 (by decide) rfl sw_1094 dd_Mo_partOf_32 (fun x4 => fr_pc (pc' := 35) rfl ?_)
    refine fr_callV (stk := []) (As := [.int x4]) cl_11 (ok_Mo_codeAt p0 x4) mt_Mo_codeAt rfl rfl sw_1445 sw_1447 sp_56 (by dsimp only [sf_deep]; omega) (Nat.le_of_ble_eq_true rfl) dd_Mo_partOf_35 (fun x5 => fr_to (pc' := 38) (env' := [some (sf_rv p0), some (.int p1), none, none]) (stk' := [.int x5]) rfl rfl rfl ?_)
    refine fp_istore_n (i := 2) dd_Mo_partOf_38 rfl (Nat.le_of_ble_eq_true rfl) (fun _ => c1_i rfl) (fr_to (pc' := 39) (env' := [some (sf_rv p0), some (.int p1), some (.int x5), none]) (stk' := []) rfl rfl rfl ?_)
    refine fp_iconst (v := (0 : Int32)) dd_Mo_partOf_39 (by decide) (fr_pc (pc' := 40) rfl ?_)
    refine fp_istore_n (i := 3) dd_Mo_partOf_40 rfl (Nat.le_of_ble_eq_true rfl) (fun _ => c1_i rfl) (fr_to (pc' := 41) (env' := [some (sf_rv p0), some (.int p1), some (.int x5), some (.int (0 : Int32))]) (stk' := []) rfl rfl rfl ?_)
    refine fp_aload_n (i := 0) (r := p0) dd_Mo_partOf_41 rfl rfl (fr_pc (pc' := 42) rfl ?_)
    refine fp_dup_r dd_Mo_partOf_42 (fr_pc (pc' := 43) rfl ?_)
    refine fr_gI cl_11 22 (by decide) rfl sw_1094 dd_Mo_partOf_43 (fun x6 => fr_pc (pc' := 46) rfl ?_)
    refine fp_iconst (v := (1 : Int32)) dd_Mo_partOf_46 (by decide) (fr_pc (pc' := 47) rfl ?_)
    refine fp_iadd dd_Mo_partOf_47 (fr_pc (pc' := 48) rfl ?_)
    refine fr_pI cl_11 22 (by decide) rfl sw_1094 rfl ⟨rfl, rfl⟩ dd_Mo_partOf_48 (fr_pc (pc' := 51) rfl ?_)
    refine fp_aload_n (i := 0) (r := p0) dd_Mo_partOf_51 rfl rfl (fr_pc (pc' := 52) rfl ?_)
    refine fr_gI cl_11 25 (by decide) rfl sw_1097 dd_Mo_partOf_52 (fun x7 => fr_pc (pc' := 55) rfl ?_)
    refine fr_bnd (l1 := (fun (v14 : (Int32)) => sf_p 88 [some (sf_rv p0), some (.int p1), some (.int x5), some (.int v14)] [])) ?_ (fun v14 => ?_)
    · refine fr_if_eq (tgt := 88) dd_Mo_partOf_55 rfl (fun _ => ?_) (fun _ => ?_)
      · exact fr_ret rfl
      · refine fr_pc (pc' := 58) rfl ?_
        refine fp_iload_n (i := 2) (x := x5) dd_Mo_partOf_58 rfl rfl (fr_pc (pc' := 59) rfl ?_)
        refine fp_bipush (v := (19 : Int32)) dd_Mo_partOf_59 (by decide) (fr_pc (pc' := 61) rfl ?_)
        refine fr_icmp_ne (tgt := 88) dd_Mo_partOf_61 rfl (fun _ => ?_) (fun _ => ?_)
        · refine fr_pc (pc' := 64) rfl ?_
          refine fp_aload_n (i := 0) (r := p0) dd_Mo_partOf_64 rfl rfl (fr_pc (pc' := 65) rfl ?_)
          refine fr_gR cl_11 2 (by decide) rfl sw_1074 dd_Mo_partOf_65 (fun x10 => fr_pc (pc' := 68) rfl ?_)
          refine fp_sipush (v := (3038 : Int32)) dd_Mo_partOf_68 (by decide) (fr_pc (pc' := 71) rfl ?_)
          refine fp_aload_n (i := 0) (r := p0) dd_Mo_partOf_71 rfl rfl (fr_pc (pc' := 72) rfl ?_)
          refine fr_gI cl_11 22 (by decide) rfl sw_1094 dd_Mo_partOf_72 (fun x11 => fr_pc (pc' := 75) rfl ?_)
          refine fp_iadd dd_Mo_partOf_75 (fr_pc (pc' := 76) rfl ?_)
          refine fr_aI0 dd_Mo_partOf_76 (fun x12 => fr_pc (pc' := 77) rfl ?_)
          refine fp_istore_n (i := 3) dd_Mo_partOf_77 rfl (Nat.le_of_ble_eq_true rfl) (fun _ => c1_i rfl) (fr_to (pc' := 78) (env' := [some (sf_rv p0), some (.int p1), some (.int x5), some (.int x12)]) (stk' := []) rfl rfl rfl ?_)
          refine fp_aload_n (i := 0) (r := p0) dd_Mo_partOf_78 rfl rfl (fr_pc (pc' := 79) rfl ?_)
          refine fp_dup_r dd_Mo_partOf_79 (fr_pc (pc' := 80) rfl ?_)
          refine fr_gI cl_11 22 (by decide) rfl sw_1094 dd_Mo_partOf_80 (fun x13 => fr_pc (pc' := 83) rfl ?_)
          refine fp_iconst (v := (1 : Int32)) dd_Mo_partOf_83 (by decide) (fr_pc (pc' := 84) rfl ?_)
          refine fp_iadd dd_Mo_partOf_84 (fr_pc (pc' := 85) rfl ?_)
          refine fr_pI cl_11 22 (by decide) rfl sw_1094 rfl ⟨rfl, rfl⟩ dd_Mo_partOf_85 (fr_pc (pc' := 88) rfl ?_)
          exact fr_ret rfl
        · exact fr_ret rfl
    · refine fp_iload_n (i := 1) (x := p1) dd_Mo_partOf_88 rfl rfl (fr_pc (pc' := 89) rfl ?_)
      refine fr_if_eq (tgt := 99) dd_Mo_partOf_89 rfl (fun _ => ?_) (fun _ => ?_)
      · refine fp_lconst (v := (0 : Int64)) dd_Mo_partOf_99 (by decide) (fr_pc (pc' := 100) rfl ?_)
        exact fr_lret (v := (0 : Int64)) rfl rfl dd_Mo_partOf_100
      · refine fr_pc (pc' := 92) rfl ?_
        refine fp_aload_n (i := 0) (r := p0) dd_Mo_partOf_92 rfl rfl (fr_pc (pc' := 93) rfl ?_)
        refine fr_gI cl_11 24 (by decide) rfl sw_1096 dd_Mo_partOf_93 (fun x16 => fr_pc (pc' := 96) rfl ?_)
        refine fr_if_eq (tgt := 101) dd_Mo_partOf_96 rfl (fun _ => ?_) (fun _ => ?_)
        · refine fp_iload_n (i := 2) (x := x5) dd_Mo_partOf_101 rfl rfl (fr_pc (pc' := 102) rfl ?_)
          refine fp_bipush (v := (50 : Int32)) dd_Mo_partOf_102 (by decide) (fr_pc (pc' := 104) rfl ?_)
          refine fr_icmp_ne (tgt := 124) dd_Mo_partOf_104 rfl (fun _ => ?_) (fun _ => ?_)
          · refine fr_pc (pc' := 107) rfl ?_
            refine fp_aload_n (i := 0) (r := p0) dd_Mo_partOf_107 rfl rfl (fr_pc (pc' := 108) rfl ?_)
            refine fr_gR cl_11 2 (by decide) rfl sw_1074 dd_Mo_partOf_108 (fun x19 => fr_pc (pc' := 111) rfl ?_)
            refine fp_sipush (v := (3038 : Int32)) dd_Mo_partOf_111 (by decide) (fr_pc (pc' := 114) rfl ?_)
            refine fp_aload_n (i := 0) (r := p0) dd_Mo_partOf_114 rfl rfl (fr_pc (pc' := 115) rfl ?_)
            refine fr_gI cl_11 22 (by decide) rfl sw_1094 dd_Mo_partOf_115 (fun x20 => fr_pc (pc' := 118) rfl ?_)
            refine fp_iadd dd_Mo_partOf_118 (fr_pc (pc' := 119) rfl ?_)
            refine fp_iconst (v := (1 : Int32)) dd_Mo_partOf_119 (by decide) (fr_pc (pc' := 120) rfl ?_)
            refine fp_isub dd_Mo_partOf_120 (fr_pc (pc' := 121) rfl ?_)
            refine fr_aI0 dd_Mo_partOf_121 (fun x21 => fr_pc (pc' := 122) rfl ?_)
            refine fp_i2l dd_Mo_partOf_122 (fr_pc (pc' := 123) rfl ?_)
            exact fr_lret (v := x21.toInt64) rfl rfl dd_Mo_partOf_123
          · refine fp_aload_n (i := 0) (r := p0) dd_Mo_partOf_124 rfl rfl (fr_pc (pc' := 125) rfl ?_)
            refine fr_gI cl_11 25 (by decide) rfl sw_1097 dd_Mo_partOf_125 (fun x22 => fr_pc (pc' := 128) rfl ?_)
            refine fr_if_eq (tgt := 141) dd_Mo_partOf_128 rfl (fun _ => ?_) (fun _ => ?_)
            · refine fp_aload_n (i := 0) (r := p0) dd_Mo_partOf_141 rfl rfl (fr_pc (pc' := 142) rfl ?_)
              refine fr_gR cl_11 26 (by decide) rfl sw_1098 dd_Mo_partOf_142 (fun x24 => fr_pc (pc' := 145) rfl ?_)
              refine fp_iload_n (i := 2) (x := x5) dd_Mo_partOf_145 rfl rfl (fr_pc (pc' := 146) rfl ?_)
              refine fp_bipush (v := (7 : Int32)) dd_Mo_partOf_146 (by decide) (fr_pc (pc' := 148) rfl ?_)
              refine fp_isub dd_Mo_partOf_148 (fr_pc (pc' := 149) rfl ?_)
              refine fr_aI0 dd_Mo_partOf_149 (fun x25 => fr_pc (pc' := 150) rfl ?_)
              refine fp_i2l dd_Mo_partOf_150 (fr_pc (pc' := 151) rfl ?_)
              exact fr_lret (v := x25.toInt64) rfl rfl dd_Mo_partOf_151
            · refine fr_pc (pc' := 131) rfl ?_
              refine fp_aload_n (i := 0) (r := p0) dd_Mo_partOf_131 rfl rfl (fr_pc (pc' := 132) rfl ?_)
              refine fp_iload_n (i := 2) (x := x5) dd_Mo_partOf_132 rfl rfl (fr_pc (pc' := 133) rfl ?_)
              refine fp_iload_n (i := 3) (x := v14) dd_Mo_partOf_133 rfl rfl (fr_pc (pc' := 134) rfl ?_)
              refine fr_callV (stk := []) (As := [.int x5, .int v14]) cl_11 (ok_Mo_orderValue p0 x5 v14) mt_Mo_orderValue rfl rfl sw_1465 sw_1467 sp_61 (by dsimp only [sf_deep]; omega) (Nat.le_of_ble_eq_true rfl) dd_Mo_partOf_134 (fun x26 => fr_to (pc' := 137) (env' := [some (sf_rv p0), some (.int p1), some (.int x5), some (.int v14)]) (stk' := [.int x26]) rfl rfl rfl ?_)
              refine fp_i2l dd_Mo_partOf_137 (fr_pc (pc' := 138) rfl ?_)
              refine fp_goto (tgt := 151) dd_Mo_partOf_138 rfl ?_
              exact fr_lret (v := x26.toInt64) rfl rfl dd_Mo_partOf_151
        · refine fr_pc (pc' := 99) rfl ?_
          refine fp_lconst (v := (0 : Int64)) dd_Mo_partOf_99 (by decide) (fr_pc (pc' := 100) rfl ?_)
          exact fr_lret (v := (0 : Int64)) rfl rfl dd_Mo_partOf_100
  · refine fr_pc (pc' := 12) rfl ?_
    refine fp_aload_n (i := 0) (r := p0) dd_Mo_partOf_12 rfl rfl (fr_pc (pc' := 13) rfl ?_)
    refine fp_iload_n (i := 1) (x := p1) dd_Mo_partOf_13 rfl rfl (fr_pc (pc' := 14) rfl ?_)
    refine fr_callV (stk := []) (As := [.int p1]) cl_11 (hR_Mo_sumOf p0 p1) mt_Mo_sumOf rfl rfl sw_1449 sw_1451 sp_57 (by dsimp only [sf_deep]; omega) (Nat.le_of_ble_eq_true rfl) dd_Mo_partOf_14 (fun x27 => fr_to (pc' := 17) (env' := [some (sf_rv p0), some (.int p1), none, none]) (stk' := [.long x27]) rfl rfl rfl ?_)
    refine fp_lstore_n (i := 2) dd_Mo_partOf_17 rfl (Nat.le_of_ble_eq_true rfl) (fun _ => c1_i rfl) (fr_to (pc' := 18) (env' := [some (sf_rv p0), some (.int p1), some (.long x27), none]) (stk' := []) rfl rfl rfl ?_)
    refine fp_aload_n (i := 0) (r := p0) dd_Mo_partOf_18 rfl rfl (fr_pc (pc' := 19) rfl ?_)
    refine fp_dup_r dd_Mo_partOf_19 (fr_pc (pc' := 20) rfl ?_)
    refine fr_gI cl_11 22 (by decide) rfl sw_1094 dd_Mo_partOf_20 (fun x28 => fr_pc (pc' := 23) rfl ?_)
    refine fp_iconst (v := (1 : Int32)) dd_Mo_partOf_23 (by decide) (fr_pc (pc' := 24) rfl ?_)
    refine fp_iadd dd_Mo_partOf_24 (fr_pc (pc' := 25) rfl ?_)
    refine fr_pI cl_11 22 (by decide) rfl sw_1094 rfl ⟨rfl, rfl⟩ dd_Mo_partOf_25 (fr_pc (pc' := 28) rfl ?_)
    refine fp_lload_n (i := 2) (x := x27) dd_Mo_partOf_28 rfl rfl (fr_pc (pc' := 29) rfl ?_)
    exact fr_lret (v := x27) rfl rfl dd_Mo_partOf_29
def jx_G4 : Nat → Nat → Option Nat → Int32 → sf_M (Int64)
  | 0, _, _, _ => sf_nil
  | n + 1, t, a0, a1 => if t = 0 then jb_Mo_sumOf (jx_G4 n) a0 a1 else if t = 1 then jb_Mo_termOf (jx_G4 n) a0 a1 else jb_Mo_partOf (jx_G4 n) a0 a1
theorem okG_4 : ∀ (n : Nat) (a0 : Option Nat) (a1 : Int32), (sf_Ok ({ cls := "SplitFaresModel", name := "sumOf", desc := "(Z)J" } : Jvm.MethodName) prog_13_method_63_code 7 (some .long) (3 + n) [sf_rv a0, .int a1] (jx_G4 n 0 a0 a1) (fun r => some (.long r))) ∧ (sf_Ok ({ cls := "SplitFaresModel", name := "termOf", desc := "(Z)J" } : Jvm.MethodName) prog_13_method_64_code 7 (some .long) (3 + n) [sf_rv a0, .int a1] (jx_G4 n 1 a0 a1) (fun r => some (.long r))) ∧ (sf_Ok ({ cls := "SplitFaresModel", name := "partOf", desc := "(Z)J" } : Jvm.MethodName) prog_13_method_65_code 4 (some .long) (3 + n) [sf_rv a0, .int a1] (jx_G4 n 2 a0 a1) (fun r => some (.long r)))
  | 0, _, _ => ⟨sf_Ok.nil, sf_Ok.nil, sf_Ok.nil⟩
  | n + 1, a0, a1 => ⟨okb_Mo_sumOf n (jx_G4 n) (fun b0 b1 => (okG_4 n b0 b1).2.1) a0 a1, okb_Mo_termOf n (jx_G4 n) (fun b0 b1 => (okG_4 n b0 b1).2.2) a0 a1, okb_Mo_partOf n (jx_G4 n) (fun b0 b1 => (okG_4 n b0 b1).1) a0 a1⟩
theorem ok_Mo_sumOf (n : Nat) (a0 : Option Nat) (a1 : Int32) : sf_Ok ({ cls := "SplitFaresModel", name := "sumOf", desc := "(Z)J" } : Jvm.MethodName) prog_13_method_63_code 7 (some .long) (3 + n) [sf_rv a0, .int a1] (jx_G4 n 0 a0 a1) (fun r => some (.long r)) := (okG_4 n a0 a1).1
theorem ok_Mo_termOf (n : Nat) (a0 : Option Nat) (a1 : Int32) : sf_Ok ({ cls := "SplitFaresModel", name := "termOf", desc := "(Z)J" } : Jvm.MethodName) prog_13_method_64_code 7 (some .long) (3 + n) [sf_rv a0, .int a1] (jx_G4 n 1 a0 a1) (fun r => some (.long r)) := (okG_4 n a0 a1).2.1
theorem ok_Mo_partOf (n : Nat) (a0 : Option Nat) (a1 : Int32) : sf_Ok ({ cls := "SplitFaresModel", name := "partOf", desc := "(Z)J" } : Jvm.MethodName) prog_13_method_65_code 4 (some .long) (3 + n) [sf_rv a0, .int a1] (jx_G4 n 2 a0 a1) (fun r => some (.long r)) := (okG_4 n a0 a1).2.2
theorem mt_Mo_testOf : sf_Mt ({ cls := "SplitFaresModel", name := "testOf", desc := "(Z)Z" } : Jvm.MethodName) prog_13_method_67_code 4 (some .boolean) 1 := ⟨sw_1486, sw_12, ⟨by decide, by decide, by decide +kernel⟩, by decide⟩
theorem dd_Mo_testOf_0 : decode prog_13_method_67_code 0 = .ok (.aload_n 0, 1) := by decide +kernel
theorem dd_Mo_testOf_1 : decode prog_13_method_67_code 1 = .ok (.iload_n 1, 1) := by decide +kernel
theorem dd_Mo_testOf_2 : decode prog_13_method_67_code 2 = .ok (.invokevirtual 311, 3) := by decide +kernel
theorem dd_Mo_testOf_5 : decode prog_13_method_67_code 5 = .ok (.istore_n 2, 1) := by decide +kernel
theorem dd_Mo_testOf_6 : decode prog_13_method_67_code 6 = .ok (.aload_n 0, 1) := by decide +kernel
theorem dd_Mo_testOf_7 : decode prog_13_method_67_code 7 = .ok (.iconst 4, 1) := by decide +kernel
theorem dd_Mo_testOf_8 : decode prog_13_method_67_code 8 = .ok (.invokevirtual 289, 3) := by decide +kernel
theorem dd_Mo_testOf_11 : decode prog_13_method_67_code 11 = .ok (.ifCond .eq 38, 3) := by decide +kernel
theorem dd_Mo_testOf_14 : decode prog_13_method_67_code 14 = .ok (.aload_n 0, 1) := by decide +kernel
theorem dd_Mo_testOf_15 : decode prog_13_method_67_code 15 = .ok (.iload_n 1, 1) := by decide +kernel
theorem dd_Mo_testOf_16 : decode prog_13_method_67_code 16 = .ok (.ifCond .eq 11, 3) := by decide +kernel
theorem dd_Mo_testOf_19 : decode prog_13_method_67_code 19 = .ok (.iload_n 2, 1) := by decide +kernel
theorem dd_Mo_testOf_20 : decode prog_13_method_67_code 20 = .ok (.ifCond .ne 7, 3) := by decide +kernel
theorem dd_Mo_testOf_23 : decode prog_13_method_67_code 23 = .ok (.iconst 1, 1) := by decide +kernel
theorem dd_Mo_testOf_24 : decode prog_13_method_67_code 24 = .ok (.goto 4, 3) := by decide +kernel
theorem dd_Mo_testOf_27 : decode prog_13_method_67_code 27 = .ok (.iconst 0, 1) := by decide +kernel
theorem dd_Mo_testOf_28 : decode prog_13_method_67_code 28 = .ok (.invokevirtual 311, 3) := by decide +kernel
theorem dd_Mo_testOf_31 : decode prog_13_method_67_code 31 = .ok (.istore_n 3, 1) := by decide +kernel
theorem dd_Mo_testOf_32 : decode prog_13_method_67_code 32 = .ok (.iload_n 2, 1) := by decide +kernel
theorem dd_Mo_testOf_33 : decode prog_13_method_67_code 33 = .ok (.ifCond .ne 7, 3) := by decide +kernel
theorem dd_Mo_testOf_36 : decode prog_13_method_67_code 36 = .ok (.iload_n 3, 1) := by decide +kernel
theorem dd_Mo_testOf_37 : decode prog_13_method_67_code 37 = .ok (.ifCond .eq 7, 3) := by decide +kernel
theorem dd_Mo_testOf_44 : decode prog_13_method_67_code 44 = .ok (.iconst 0, 1) := by decide +kernel
theorem dd_Mo_testOf_40 : decode prog_13_method_67_code 40 = .ok (.iconst 1, 1) := by decide +kernel
theorem dd_Mo_testOf_41 : decode prog_13_method_67_code 41 = .ok (.goto 4, 3) := by decide +kernel
theorem dd_Mo_testOf_45 : decode prog_13_method_67_code 45 = .ok (.istore_n 2, 1) := by decide +kernel
theorem dd_Mo_testOf_46 : decode prog_13_method_67_code 46 = .ok (.goto (-40), 3) := by decide +kernel
theorem dd_Mo_testOf_49 : decode prog_13_method_67_code 49 = .ok (.iload_n 2, 1) := by decide +kernel
theorem dd_Mo_testOf_50 : decode prog_13_method_67_code 50 = .ok (.ireturn, 1) := by decide +kernel
theorem mt_Mo_bothOf : sf_Mt ({ cls := "SplitFaresModel", name := "bothOf", desc := "(Z)Z" } : Jvm.MethodName) prog_13_method_68_code 4 (some .boolean) 1 := ⟨sw_1490, sw_12, ⟨by decide, by decide, by decide +kernel⟩, by decide⟩
theorem dd_Mo_bothOf_0 : decode prog_13_method_68_code 0 = .ok (.aload_n 0, 1) := by decide +kernel
theorem dd_Mo_bothOf_1 : decode prog_13_method_68_code 1 = .ok (.iload_n 1, 1) := by decide +kernel
theorem dd_Mo_bothOf_2 : decode prog_13_method_68_code 2 = .ok (.invokevirtual 314, 3) := by decide +kernel
theorem dd_Mo_bothOf_5 : decode prog_13_method_68_code 5 = .ok (.istore_n 2, 1) := by decide +kernel
theorem dd_Mo_bothOf_6 : decode prog_13_method_68_code 6 = .ok (.aload_n 0, 1) := by decide +kernel
theorem dd_Mo_bothOf_7 : decode prog_13_method_68_code 7 = .ok (.iconst 5, 1) := by decide +kernel
theorem dd_Mo_bothOf_8 : decode prog_13_method_68_code 8 = .ok (.invokevirtual 289, 3) := by decide +kernel
theorem dd_Mo_bothOf_11 : decode prog_13_method_68_code 11 = .ok (.ifCond .eq 38, 3) := by decide +kernel
theorem dd_Mo_bothOf_14 : decode prog_13_method_68_code 14 = .ok (.aload_n 0, 1) := by decide +kernel
theorem dd_Mo_bothOf_15 : decode prog_13_method_68_code 15 = .ok (.iload_n 1, 1) := by decide +kernel
theorem dd_Mo_bothOf_16 : decode prog_13_method_68_code 16 = .ok (.ifCond .eq 11, 3) := by decide +kernel
theorem dd_Mo_bothOf_19 : decode prog_13_method_68_code 19 = .ok (.iload_n 2, 1) := by decide +kernel
theorem dd_Mo_bothOf_20 : decode prog_13_method_68_code 20 = .ok (.ifCond .eq 7, 3) := by decide +kernel
theorem dd_Mo_bothOf_23 : decode prog_13_method_68_code 23 = .ok (.iconst 1, 1) := by decide +kernel
theorem dd_Mo_bothOf_24 : decode prog_13_method_68_code 24 = .ok (.goto 4, 3) := by decide +kernel
theorem dd_Mo_bothOf_27 : decode prog_13_method_68_code 27 = .ok (.iconst 0, 1) := by decide +kernel
theorem dd_Mo_bothOf_28 : decode prog_13_method_68_code 28 = .ok (.invokevirtual 314, 3) := by decide +kernel
theorem dd_Mo_bothOf_31 : decode prog_13_method_68_code 31 = .ok (.istore_n 3, 1) := by decide +kernel
theorem dd_Mo_bothOf_32 : decode prog_13_method_68_code 32 = .ok (.iload_n 2, 1) := by decide +kernel
theorem dd_Mo_bothOf_33 : decode prog_13_method_68_code 33 = .ok (.ifCond .eq 11, 3) := by decide +kernel
theorem dd_Mo_bothOf_36 : decode prog_13_method_68_code 36 = .ok (.iload_n 3, 1) := by decide +kernel
theorem dd_Mo_bothOf_37 : decode prog_13_method_68_code 37 = .ok (.ifCond .eq 7, 3) := by decide +kernel
theorem dd_Mo_bothOf_40 : decode prog_13_method_68_code 40 = .ok (.iconst 1, 1) := by decide +kernel
theorem dd_Mo_bothOf_41 : decode prog_13_method_68_code 41 = .ok (.goto 4, 3) := by decide +kernel
theorem dd_Mo_bothOf_44 : decode prog_13_method_68_code 44 = .ok (.iconst 0, 1) := by decide +kernel
theorem dd_Mo_bothOf_45 : decode prog_13_method_68_code 45 = .ok (.istore_n 2, 1) := by decide +kernel
theorem dd_Mo_bothOf_46 : decode prog_13_method_68_code 46 = .ok (.goto (-40), 3) := by decide +kernel
theorem dd_Mo_bothOf_49 : decode prog_13_method_68_code 49 = .ok (.iload_n 2, 1) := by decide +kernel
theorem dd_Mo_bothOf_50 : decode prog_13_method_68_code 50 = .ok (.ireturn, 1) := by decide +kernel
theorem mt_Mo_plainOf : sf_Mt ({ cls := "SplitFaresModel", name := "plainOf", desc := "(Z)Z" } : Jvm.MethodName) prog_13_method_69_code 3 (some .boolean) 1 := ⟨sw_1494, sw_12, ⟨by decide, by decide, by decide +kernel⟩, by decide⟩
theorem dd_Mo_plainOf_0 : decode prog_13_method_69_code 0 = .ok (.iconst 0, 1) := by decide +kernel
theorem dd_Mo_plainOf_1 : decode prog_13_method_69_code 1 = .ok (.istore_n 2, 1) := by decide +kernel
theorem dd_Mo_plainOf_2 : decode prog_13_method_69_code 2 = .ok (.aload_n 0, 1) := by decide +kernel
theorem dd_Mo_plainOf_3 : decode prog_13_method_69_code 3 = .ok (.bipush 6, 2) := by decide +kernel
theorem dd_Mo_plainOf_5 : decode prog_13_method_69_code 5 = .ok (.invokevirtual 289, 3) := by decide +kernel
theorem dd_Mo_plainOf_8 : decode prog_13_method_69_code 8 = .ok (.ifCond .eq 16, 3) := by decide +kernel
theorem dd_Mo_plainOf_11 : decode prog_13_method_69_code 11 = .ok (.iload_n 2, 1) := by decide +kernel
theorem dd_Mo_plainOf_12 : decode prog_13_method_69_code 12 = .ok (.ifCond .ne 7, 3) := by decide +kernel
theorem dd_Mo_plainOf_15 : decode prog_13_method_69_code 15 = .ok (.iconst 1, 1) := by decide +kernel
theorem dd_Mo_plainOf_16 : decode prog_13_method_69_code 16 = .ok (.goto 4, 3) := by decide +kernel
theorem dd_Mo_plainOf_19 : decode prog_13_method_69_code 19 = .ok (.iconst 0, 1) := by decide +kernel
theorem dd_Mo_plainOf_20 : decode prog_13_method_69_code 20 = .ok (.istore_n 2, 1) := by decide +kernel
theorem dd_Mo_plainOf_21 : decode prog_13_method_69_code 21 = .ok (.goto (-19), 3) := by decide +kernel
theorem dd_Mo_plainOf_24 : decode prog_13_method_69_code 24 = .ok (.aload_n 0, 1) := by decide +kernel
theorem dd_Mo_plainOf_25 : decode prog_13_method_69_code 25 = .ok (.iload_n 1, 1) := by decide +kernel
theorem dd_Mo_plainOf_26 : decode prog_13_method_69_code 26 = .ok (.invokevirtual 317, 3) := by decide +kernel
theorem dd_Mo_plainOf_29 : decode prog_13_method_69_code 29 = .ok (.iload_n 2, 1) := by decide +kernel
theorem dd_Mo_plainOf_30 : decode prog_13_method_69_code 30 = .ok (.if_icmp .eq 7, 3) := by decide +kernel
theorem dd_Mo_plainOf_33 : decode prog_13_method_69_code 33 = .ok (.iconst 1, 1) := by decide +kernel
theorem dd_Mo_plainOf_34 : decode prog_13_method_69_code 34 = .ok (.goto 4, 3) := by decide +kernel
theorem dd_Mo_plainOf_37 : decode prog_13_method_69_code 37 = .ok (.iconst 0, 1) := by decide +kernel
theorem dd_Mo_plainOf_38 : decode prog_13_method_69_code 38 = .ok (.ireturn, 1) := by decide +kernel
theorem mt_Mo_positiveOf : sf_Mt ({ cls := "SplitFaresModel", name := "positiveOf", desc := "(Z)Z" } : Jvm.MethodName) prog_13_method_70_code 7 (some .boolean) 1 := ⟨sw_1498, sw_12, ⟨by decide, by decide, by decide +kernel⟩, by decide⟩
theorem dd_Mo_positiveOf_0 : decode prog_13_method_70_code 0 = .ok (.aload_n 0, 1) := by decide +kernel
theorem dd_Mo_positiveOf_1 : decode prog_13_method_70_code 1 = .ok (.bipush 40, 2) := by decide +kernel
theorem dd_Mo_positiveOf_3 : decode prog_13_method_70_code 3 = .ok (.invokestatic 224, 3) := by decide +kernel
theorem dd_Mo_positiveOf_6 : decode prog_13_method_70_code 6 = .ok (.invokevirtual 289, 3) := by decide +kernel
theorem dd_Mo_positiveOf_9 : decode prog_13_method_70_code 9 = .ok (.ifCond .eq 21, 3) := by decide +kernel
theorem dd_Mo_positiveOf_12 : decode prog_13_method_70_code 12 = .ok (.aload_n 0, 1) := by decide +kernel
theorem dd_Mo_positiveOf_13 : decode prog_13_method_70_code 13 = .ok (.iload_n 1, 1) := by decide +kernel
theorem dd_Mo_positiveOf_14 : decode prog_13_method_70_code 14 = .ok (.invokevirtual 320, 3) := by decide +kernel
theorem dd_Mo_positiveOf_17 : decode prog_13_method_70_code 17 = .ok (.istore_n 2, 1) := by decide +kernel
theorem dd_Mo_positiveOf_18 : decode prog_13_method_70_code 18 = .ok (.aload_n 0, 1) := by decide +kernel
theorem dd_Mo_positiveOf_19 : decode prog_13_method_70_code 19 = .ok (.dup, 1) := by decide +kernel
theorem dd_Mo_positiveOf_20 : decode prog_13_method_70_code 20 = .ok (.getfield 265, 3) := by decide +kernel
theorem dd_Mo_positiveOf_23 : decode prog_13_method_70_code 23 = .ok (.iconst 1, 1) := by decide +kernel
theorem dd_Mo_positiveOf_24 : decode prog_13_method_70_code 24 = .ok (.iadd, 1) := by decide +kernel
theorem dd_Mo_positiveOf_25 : decode prog_13_method_70_code 25 = .ok (.putfield 265, 3) := by decide +kernel
theorem dd_Mo_positiveOf_28 : decode prog_13_method_70_code 28 = .ok (.iload_n 2, 1) := by decide +kernel
theorem dd_Mo_positiveOf_29 : decode prog_13_method_70_code 29 = .ok (.ireturn, 1) := by decide +kernel
theorem dd_Mo_positiveOf_30 : decode prog_13_method_70_code 30 = .ok (.aload_n 0, 1) := by decide +kernel
theorem dd_Mo_positiveOf_31 : decode prog_13_method_70_code 31 = .ok (.iload_n 1, 1) := by decide +kernel
theorem dd_Mo_positiveOf_32 : decode prog_13_method_70_code 32 = .ok (.invokevirtual 292, 3) := by decide +kernel
theorem dd_Mo_positiveOf_35 : decode prog_13_method_70_code 35 = .ok (.lstore_n 2, 1) := by decide +kernel
theorem dd_Mo_positiveOf_36 : decode prog_13_method_70_code 36 = .ok (.aload_n 0, 1) := by decide +kernel
theorem dd_Mo_positiveOf_37 : decode prog_13_method_70_code 37 = .ok (.aload_n 0, 1) := by decide +kernel
theorem dd_Mo_positiveOf_38 : decode prog_13_method_70_code 38 = .ok (.getfield 265, 3) := by decide +kernel
theorem dd_Mo_positiveOf_41 : decode prog_13_method_70_code 41 = .ok (.invokevirtual 268, 3) := by decide +kernel
theorem dd_Mo_positiveOf_44 : decode prog_13_method_70_code 44 = .ok (.istore 4, 2) := by decide +kernel
theorem dd_Mo_positiveOf_46 : decode prog_13_method_70_code 46 = .ok (.aload_n 0, 1) := by decide +kernel
theorem dd_Mo_positiveOf_47 : decode prog_13_method_70_code 47 = .ok (.dup, 1) := by decide +kernel
theorem dd_Mo_positiveOf_48 : decode prog_13_method_70_code 48 = .ok (.getfield 265, 3) := by decide +kernel
theorem dd_Mo_positiveOf_51 : decode prog_13_method_70_code 51 = .ok (.iconst 1, 1) := by decide +kernel
theorem dd_Mo_positiveOf_52 : decode prog_13_method_70_code 52 = .ok (.iadd, 1) := by decide +kernel
theorem dd_Mo_positiveOf_53 : decode prog_13_method_70_code 53 = .ok (.putfield 265, 3) := by decide +kernel
theorem dd_Mo_positiveOf_56 : decode prog_13_method_70_code 56 = .ok (.aload_n 0, 1) := by decide +kernel
theorem dd_Mo_positiveOf_57 : decode prog_13_method_70_code 57 = .ok (.iload_n 1, 1) := by decide +kernel
theorem dd_Mo_positiveOf_58 : decode prog_13_method_70_code 58 = .ok (.invokevirtual 292, 3) := by decide +kernel
theorem dd_Mo_positiveOf_61 : decode prog_13_method_70_code 61 = .ok (.lstore 5, 2) := by decide +kernel
theorem dd_Mo_positiveOf_63 : decode prog_13_method_70_code 63 = .ok (.iload_n 1, 1) := by decide +kernel
theorem dd_Mo_positiveOf_64 : decode prog_13_method_70_code 64 = .ok (.ifCond .eq 61, 3) := by decide +kernel
theorem dd_Mo_positiveOf_67 : decode prog_13_method_70_code 67 = .ok (.aload_n 0, 1) := by decide +kernel
theorem dd_Mo_positiveOf_68 : decode prog_13_method_70_code 68 = .ok (.getfield 275, 3) := by decide +kernel
theorem dd_Mo_positiveOf_71 : decode prog_13_method_70_code 71 = .ok (.ifCond .ne 54, 3) := by decide +kernel
theorem dd_Mo_positiveOf_74 : decode prog_13_method_70_code 74 = .ok (.iload 4, 2) := by decide +kernel
theorem dd_Mo_positiveOf_76 : decode prog_13_method_70_code 76 = .ok (.bipush 60, 2) := by decide +kernel
theorem dd_Mo_positiveOf_78 : decode prog_13_method_70_code 78 = .ok (.invokestatic 224, 3) := by decide +kernel
theorem dd_Mo_positiveOf_81 : decode prog_13_method_70_code 81 = .ok (.if_icmp .ne 13, 3) := by decide +kernel
theorem dd_Mo_positiveOf_84 : decode prog_13_method_70_code 84 = .ok (.lload_n 2, 1) := by decide +kernel
theorem dd_Mo_positiveOf_85 : decode prog_13_method_70_code 85 = .ok (.lload 5, 2) := by decide +kernel
theorem dd_Mo_positiveOf_87 : decode prog_13_method_70_code 87 = .ok (.lcmp, 1) := by decide +kernel
theorem dd_Mo_positiveOf_88 : decode prog_13_method_70_code 88 = .ok (.ifCond .ge 37, 3) := by decide +kernel
theorem dd_Mo_positiveOf_91 : decode prog_13_method_70_code 91 = .ok (.goto 30, 3) := by decide +kernel
theorem dd_Mo_positiveOf_94 : decode prog_13_method_70_code 94 = .ok (.iload 4, 2) := by decide +kernel
theorem dd_Mo_positiveOf_96 : decode prog_13_method_70_code 96 = .ok (.bipush 62, 2) := by decide +kernel
theorem dd_Mo_positiveOf_98 : decode prog_13_method_70_code 98 = .ok (.invokestatic 224, 3) := by decide +kernel
theorem dd_Mo_positiveOf_101 : decode prog_13_method_70_code 101 = .ok (.if_icmp .ne 13, 3) := by decide +kernel
theorem dd_Mo_positiveOf_104 : decode prog_13_method_70_code 104 = .ok (.lload_n 2, 1) := by decide +kernel
theorem dd_Mo_positiveOf_105 : decode prog_13_method_70_code 105 = .ok (.lload 5, 2) := by decide +kernel
theorem dd_Mo_positiveOf_107 : decode prog_13_method_70_code 107 = .ok (.lcmp, 1) := by decide +kernel
theorem dd_Mo_positiveOf_108 : decode prog_13_method_70_code 108 = .ok (.ifCond .le 17, 3) := by decide +kernel
theorem dd_Mo_positiveOf_111 : decode prog_13_method_70_code 111 = .ok (.goto 10, 3) := by decide +kernel
theorem dd_Mo_positiveOf_114 : decode prog_13_method_70_code 114 = .ok (.lload_n 2, 1) := by decide +kernel
theorem dd_Mo_positiveOf_115 : decode prog_13_method_70_code 115 = .ok (.lload 5, 2) := by decide +kernel
theorem dd_Mo_positiveOf_117 : decode prog_13_method_70_code 117 = .ok (.lcmp, 1) := by decide +kernel
theorem dd_Mo_positiveOf_118 : decode prog_13_method_70_code 118 = .ok (.ifCond .ne 7, 3) := by decide +kernel
theorem dd_Mo_positiveOf_121 : decode prog_13_method_70_code 121 = .ok (.iconst 1, 1) := by decide +kernel
theorem dd_Mo_positiveOf_122 : decode prog_13_method_70_code 122 = .ok (.goto 4, 3) := by decide +kernel
theorem dd_Mo_positiveOf_125 : decode prog_13_method_70_code 125 = .ok (.iconst 0, 1) := by decide +kernel
theorem dd_Mo_positiveOf_126 : decode prog_13_method_70_code 126 = .ok (.ireturn, 1) := by decide +kernel
def jb_Mo_testOf (R : Nat → Option Nat → Int32 → sf_M (Int32)) (p0 : Option Nat) (p1 : Int32) : sf_M (Int32) :=
  sf_bnd (sf_rc 11 p0 (R 1 p0 p1)) fun x1 =>
  sf_bnd (sf_loop (β := (Int32)) (γ := (Int32)) (fun b2 =>
  sf_bnd (sf_rc 11 p0 (jx_Mo_passes0 p0 (4 : Int32))) fun x3 =>
  if x3 = 0 then (
  sf_ret (.inr b2)
  ) else (
  sf_bnd (α := (Int32)) (
  sf_or (α := (Int32)) (β := (Unit)) (
  if p1 = 0 then (
  sf_ret (.inr ())
  ) else (
  if b2 = 0 then (
  sf_ret (.inl (1 : Int32))
  ) else (
  sf_ret (.inr ())
  )
  )
  ) (fun v7 =>
  sf_ret (0 : Int32)
  )
  ) (fun v8 =>
  sf_bnd (sf_rc 11 p0 (R 1 p0 v8)) fun x9 =>
  if b2 = 0 then (
  if x9 = 0 then (
  sf_ret (.inl (0 : Int32))
  ) else (
  sf_ret (.inl (1 : Int32))
  )
  ) else (
  sf_ret (.inl (1 : Int32))
  )
  )
  )
  ) sf_fuel x1) (fun e12 =>
  sf_bnd (sf_rz e12) fun x13 =>
  sf_ret x13
  )
set_option maxRecDepth 20000 in
set_option maxHeartbeats 4000000 in
theorem okb_Mo_testOf (n : Nat) (R : Nat → Option Nat → Int32 → sf_M (Int32)) (hR_Mo_bothOf : ∀ (a0 : Option Nat) (a1 : Int32), sf_Ok ({ cls := "SplitFaresModel", name := "bothOf", desc := "(Z)Z" } : Jvm.MethodName) prog_13_method_68_code 4 (some .boolean) (104 + n) [sf_rv a0, .int a1] (R 1 a0 a1) (fun r => some (.int r))) (p0 : Option Nat) (p1 : Int32) : sf_Ok ({ cls := "SplitFaresModel", name := "testOf", desc := "(Z)Z" } : Jvm.MethodName) prog_13_method_67_code 4 (some .boolean) (104 + n + 1) [sf_rv p0, .int p1] (jb_Mo_testOf R p0 p1) (fun r => some (.int r)) := by
  refine sf_Ok.of (env := [some (sf_rv p0), some (.int p1), none, none]) (plainFor_of_name (by decide)) [false, false] (fun G => ⟨pk_r, pk_i, trivial⟩) (Nat.le_of_ble_eq_true rfl) rfl (fun X => ?_)
  unfold jb_Mo_testOf
  refine fp_aload_n (i := 0) (r := p0) dd_Mo_testOf_0 rfl rfl (fr_pc (pc' := 1) rfl ?_)
  refine fp_iload_n (i := 1) (x := p1) dd_Mo_testOf_1 rfl rfl (fr_pc (pc' := 2) rfl ?_)
  refine fr_callV (stk := []) (As := [.int p1]) cl_11 (hR_Mo_bothOf p0 p1) mt_Mo_bothOf rfl rfl sw_1487 sw_1489 sp_66 (by dsimp only [sf_deep]; omega) (Nat.le_of_ble_eq_true rfl) dd_Mo_testOf_2 (fun x1 => fr_to (pc' := 5) (env' := [some (sf_rv p0), some (.int p1), none, none]) (stk' := [.int x1]) rfl rfl rfl ?_)
  refine fp_istore_n (i := 2) dd_Mo_testOf_5 rfl (Nat.le_of_ble_eq_true rfl) (fun _ => c1_i rfl) (fr_to (pc' := 6) (env' := [some (sf_rv p0), some (.int p1), some (.int x1), none]) (stk' := []) rfl rfl rfl ?_)
  refine fr_to (pc' := 6) (env' := [some (sf_rv p0), some (.int p1), some (.int x1), none]) (stk' := []) rfl rfl rfl ?_
  refine fr_bnd (l1 := (fun (e12 : (Int32)) => sf_p 49 [some (sf_rv p0), some (.int p1), some (.int e12), none] [])) (fr_loop (Lb := (fun (b2 : (Int32)) => sf_p 6 [some (sf_rv p0), some (.int p1), some (.int b2), none] [])) (fun b2 => ?_) _ _) (fun e12 => ?_)
  · refine fp_aload_n (i := 0) (r := p0) dd_Mo_testOf_6 rfl rfl (fr_pc (pc' := 7) rfl ?_)
    refine fp_iconst (v := (4 : Int32)) dd_Mo_testOf_7 (by decide) (fr_pc (pc' := 8) rfl ?_)
    refine fr_callV (stk := []) (As := [.int (4 : Int32)]) cl_11 (ok_Mo_passes0 p0 (4 : Int32)) mt_Mo_passes0 rfl rfl sw_1461 sw_1463 sp_60 (by dsimp only [sf_deep]; omega) (Nat.le_of_ble_eq_true rfl) dd_Mo_testOf_8 (fun x3 => fr_to (pc' := 11) (env' := [some (sf_rv p0), some (.int p1), some (.int b2), none]) (stk' := [.int x3]) rfl rfl rfl ?_)
    refine fr_if_eq (tgt := 49) dd_Mo_testOf_11 rfl (fun _ => ?_) (fun _ => ?_)
    · exact fr_ret rfl
    · refine fr_pc (pc' := 14) rfl ?_
      refine fp_aload_n (i := 0) (r := p0) dd_Mo_testOf_14 rfl rfl (fr_pc (pc' := 15) rfl ?_)
      refine fp_iload_n (i := 1) (x := p1) dd_Mo_testOf_15 rfl rfl (fr_pc (pc' := 16) rfl ?_)
      refine fr_bnd (l1 := (fun (v8 : (Int32)) => sf_p 28 [some (sf_rv p0), some (.int p1), some (.int b2), none] [.int v8, sf_rv p0])) ?_ (fun v8 => ?_)
      · refine fr_or (l1 := (fun (v7 : (Unit)) => sf_p 27 [some (sf_rv p0), some (.int p1), some (.int b2), none] [sf_rv p0])) ?_ (fun v7 => ?_)
        · refine fr_if_eq (tgt := 27) dd_Mo_testOf_16 rfl (fun _ => ?_) (fun _ => ?_)
          · exact fr_ret rfl
          · refine fr_pc (pc' := 19) rfl ?_
            refine fp_iload_n (i := 2) (x := b2) dd_Mo_testOf_19 rfl rfl (fr_pc (pc' := 20) rfl ?_)
            refine fr_if_ne (tgt := 27) dd_Mo_testOf_20 rfl (fun _ => ?_) (fun _ => ?_)
            · refine fr_pc (pc' := 23) rfl ?_
              refine fp_iconst (v := (1 : Int32)) dd_Mo_testOf_23 (by decide) (fr_pc (pc' := 24) rfl ?_)
              refine fp_goto (tgt := 28) dd_Mo_testOf_24 rfl ?_
              exact fr_ret rfl
            · exact fr_ret rfl
        · refine fp_iconst (v := (0 : Int32)) dd_Mo_testOf_27 (by decide) (fr_pc (pc' := 28) rfl ?_)
          exact fr_ret rfl
      · refine fr_callV (stk := []) (As := [.int v8]) cl_11 (hR_Mo_bothOf p0 v8) mt_Mo_bothOf rfl rfl sw_1487 sw_1489 sp_66 (by dsimp only [sf_deep]; omega) (Nat.le_of_ble_eq_true rfl) dd_Mo_testOf_28 (fun x9 => fr_to (pc' := 31) (env' := [some (sf_rv p0), some (.int p1), some (.int b2), none]) (stk' := [.int x9]) rfl rfl rfl ?_)
        refine fp_istore_n (i := 3) dd_Mo_testOf_31 rfl (Nat.le_of_ble_eq_true rfl) (fun _ => c1_i rfl) (fr_to (pc' := 32) (env' := [some (sf_rv p0), some (.int p1), some (.int b2), some (.int x9)]) (stk' := []) rfl rfl rfl ?_)
        refine fp_iload_n (i := 2) (x := b2) dd_Mo_testOf_32 rfl rfl (fr_pc (pc' := 33) rfl ?_)
        refine fr_if_ne (tgt := 40) dd_Mo_testOf_33 rfl (fun _ => ?_) (fun _ => ?_)
        · refine fr_pc (pc' := 36) rfl ?_
          refine fp_iload_n (i := 3) (x := x9) dd_Mo_testOf_36 rfl rfl (fr_pc (pc' := 37) rfl ?_)
          refine fr_if_eq (tgt := 44) dd_Mo_testOf_37 rfl (fun _ => ?_) (fun _ => ?_)
          · refine fp_iconst (v := (0 : Int32)) dd_Mo_testOf_44 (by decide) (fr_pc (pc' := 45) rfl ?_)
            refine fp_istore_n (i := 2) dd_Mo_testOf_45 rfl (Nat.le_of_ble_eq_true rfl) (fun _ => c1_i rfl) (fr_to (pc' := 46) (env' := [some (sf_rv p0), some (.int p1), some (.int (0 : Int32)), some (.int x9)]) (stk' := []) rfl rfl rfl ?_)
            refine fp_goto (tgt := 6) dd_Mo_testOf_46 rfl ?_
            refine fr_wk [true, true, true, false] ?_
            exact fr_ret rfl
          · refine fr_pc (pc' := 40) rfl ?_
            refine fp_iconst (v := (1 : Int32)) dd_Mo_testOf_40 (by decide) (fr_pc (pc' := 41) rfl ?_)
            refine fp_goto (tgt := 45) dd_Mo_testOf_41 rfl ?_
            refine fp_istore_n (i := 2) dd_Mo_testOf_45 rfl (Nat.le_of_ble_eq_true rfl) (fun _ => c1_i rfl) (fr_to (pc' := 46) (env' := [some (sf_rv p0), some (.int p1), some (.int (1 : Int32)), some (.int x9)]) (stk' := []) rfl rfl rfl ?_)
            refine fp_goto (tgt := 6) dd_Mo_testOf_46 rfl ?_
            refine fr_wk [true, true, true, false] ?_
            exact fr_ret rfl
        · refine fp_iconst (v := (1 : Int32)) dd_Mo_testOf_40 (by decide) (fr_pc (pc' := 41) rfl ?_)
          refine fp_goto (tgt := 45) dd_Mo_testOf_41 rfl ?_
          refine fp_istore_n (i := 2) dd_Mo_testOf_45 rfl (Nat.le_of_ble_eq_true rfl) (fun _ => c1_i rfl) (fr_to (pc' := 46) (env' := [some (sf_rv p0), some (.int p1), some (.int (1 : Int32)), some (.int x9)]) (stk' := []) rfl rfl rfl ?_)
          refine fp_goto (tgt := 6) dd_Mo_testOf_46 rfl ?_
          refine fr_wk [true, true, true, false] ?_
          exact fr_ret rfl
  · refine fp_iload_n (i := 2) (x := e12) dd_Mo_testOf_49 rfl rfl (fr_pc (pc' := 50) rfl ?_)
    exact fr_zret (r := fun x13 => x13) (fun _ => rfl) rfl dd_Mo_testOf_50
def jb_Mo_bothOf (R : Nat → Option Nat → Int32 → sf_M (Int32)) (p0 : Option Nat) (p1 : Int32) : sf_M (Int32) :=
  sf_bnd (sf_rc 11 p0 (R 2 p0 p1)) fun x1 =>
  sf_bnd (sf_loop (β := (Int32)) (γ := (Int32)) (fun b2 =>
  sf_bnd (sf_rc 11 p0 (jx_Mo_passes0 p0 (5 : Int32))) fun x3 =>
  if x3 = 0 then (
  sf_ret (.inr b2)
  ) else (
  sf_bnd (α := (Int32)) (
  sf_or (α := (Int32)) (β := (Unit)) (
  if p1 = 0 then (
  sf_ret (.inr ())
  ) else (
  if b2 = 0 then (
  sf_ret (.inr ())
  ) else (
  sf_ret (.inl (1 : Int32))
  )
  )
  ) (fun v7 =>
  sf_ret (0 : Int32)
  )
  ) (fun v8 =>
  sf_bnd (sf_rc 11 p0 (R 2 p0 v8)) fun x9 =>
  if b2 = 0 then (
  sf_ret (.inl (0 : Int32))
  ) else (
  if x9 = 0 then (
  sf_ret (.inl (0 : Int32))
  ) else (
  sf_ret (.inl (1 : Int32))
  )
  )
  )
  )
  ) sf_fuel x1) (fun e12 =>
  sf_bnd (sf_rz e12) fun x13 =>
  sf_ret x13
  )
set_option maxRecDepth 20000 in
set_option maxHeartbeats 4000000 in
theorem okb_Mo_bothOf (n : Nat) (R : Nat → Option Nat → Int32 → sf_M (Int32)) (hR_Mo_plainOf : ∀ (a0 : Option Nat) (a1 : Int32), sf_Ok ({ cls := "SplitFaresModel", name := "plainOf", desc := "(Z)Z" } : Jvm.MethodName) prog_13_method_69_code 3 (some .boolean) (104 + n) [sf_rv a0, .int a1] (R 2 a0 a1) (fun r => some (.int r))) (p0 : Option Nat) (p1 : Int32) : sf_Ok ({ cls := "SplitFaresModel", name := "bothOf", desc := "(Z)Z" } : Jvm.MethodName) prog_13_method_68_code 4 (some .boolean) (104 + n + 1) [sf_rv p0, .int p1] (jb_Mo_bothOf R p0 p1) (fun r => some (.int r)) := by
  refine sf_Ok.of (env := [some (sf_rv p0), some (.int p1), none, none]) (plainFor_of_name (by decide)) [false, false] (fun G => ⟨pk_r, pk_i, trivial⟩) (Nat.le_of_ble_eq_true rfl) rfl (fun X => ?_)
  unfold jb_Mo_bothOf
  refine fp_aload_n (i := 0) (r := p0) dd_Mo_bothOf_0 rfl rfl (fr_pc (pc' := 1) rfl ?_)
  refine fp_iload_n (i := 1) (x := p1) dd_Mo_bothOf_1 rfl rfl (fr_pc (pc' := 2) rfl ?_)
  refine fr_callV (stk := []) (As := [.int p1]) cl_11 (hR_Mo_plainOf p0 p1) mt_Mo_plainOf rfl rfl sw_1491 sw_1493 sp_67 (by dsimp only [sf_deep]; omega) (Nat.le_of_ble_eq_true rfl) dd_Mo_bothOf_2 (fun x1 => fr_to (pc' := 5) (env' := [some (sf_rv p0), some (.int p1), none, none]) (stk' := [.int x1]) rfl rfl rfl ?_)
  refine fp_istore_n (i := 2) dd_Mo_bothOf_5 rfl (Nat.le_of_ble_eq_true rfl) (fun _ => c1_i rfl) (fr_to (pc' := 6) (env' := [some (sf_rv p0), some (.int p1), some (.int x1), none]) (stk' := []) rfl rfl rfl ?_)
  refine fr_to (pc' := 6) (env' := [some (sf_rv p0), some (.int p1), some (.int x1), none]) (stk' := []) rfl rfl rfl ?_
  refine fr_bnd (l1 := (fun (e12 : (Int32)) => sf_p 49 [some (sf_rv p0), some (.int p1), some (.int e12), none] [])) (fr_loop (Lb := (fun (b2 : (Int32)) => sf_p 6 [some (sf_rv p0), some (.int p1), some (.int b2), none] [])) (fun b2 => ?_) _ _) (fun e12 => ?_)
  · refine fp_aload_n (i := 0) (r := p0) dd_Mo_bothOf_6 rfl rfl (fr_pc (pc' := 7) rfl ?_)
    refine fp_iconst (v := (5 : Int32)) dd_Mo_bothOf_7 (by decide) (fr_pc (pc' := 8) rfl ?_)
    refine fr_callV (stk := []) (As := [.int (5 : Int32)]) cl_11 (ok_Mo_passes0 p0 (5 : Int32)) mt_Mo_passes0 rfl rfl sw_1461 sw_1463 sp_60 (by dsimp only [sf_deep]; omega) (Nat.le_of_ble_eq_true rfl) dd_Mo_bothOf_8 (fun x3 => fr_to (pc' := 11) (env' := [some (sf_rv p0), some (.int p1), some (.int b2), none]) (stk' := [.int x3]) rfl rfl rfl ?_)
    refine fr_if_eq (tgt := 49) dd_Mo_bothOf_11 rfl (fun _ => ?_) (fun _ => ?_)
    · exact fr_ret rfl
    · refine fr_pc (pc' := 14) rfl ?_
      refine fp_aload_n (i := 0) (r := p0) dd_Mo_bothOf_14 rfl rfl (fr_pc (pc' := 15) rfl ?_)
      refine fp_iload_n (i := 1) (x := p1) dd_Mo_bothOf_15 rfl rfl (fr_pc (pc' := 16) rfl ?_)
      refine fr_bnd (l1 := (fun (v8 : (Int32)) => sf_p 28 [some (sf_rv p0), some (.int p1), some (.int b2), none] [.int v8, sf_rv p0])) ?_ (fun v8 => ?_)
      · refine fr_or (l1 := (fun (v7 : (Unit)) => sf_p 27 [some (sf_rv p0), some (.int p1), some (.int b2), none] [sf_rv p0])) ?_ (fun v7 => ?_)
        · refine fr_if_eq (tgt := 27) dd_Mo_bothOf_16 rfl (fun _ => ?_) (fun _ => ?_)
          · exact fr_ret rfl
          · refine fr_pc (pc' := 19) rfl ?_
            refine fp_iload_n (i := 2) (x := b2) dd_Mo_bothOf_19 rfl rfl (fr_pc (pc' := 20) rfl ?_)
            refine fr_if_eq (tgt := 27) dd_Mo_bothOf_20 rfl (fun _ => ?_) (fun _ => ?_)
            · exact fr_ret rfl
            · refine fr_pc (pc' := 23) rfl ?_
              refine fp_iconst (v := (1 : Int32)) dd_Mo_bothOf_23 (by decide) (fr_pc (pc' := 24) rfl ?_)
              refine fp_goto (tgt := 28) dd_Mo_bothOf_24 rfl ?_
              exact fr_ret rfl
        · refine fp_iconst (v := (0 : Int32)) dd_Mo_bothOf_27 (by decide) (fr_pc (pc' := 28) rfl ?_)
          exact fr_ret rfl
      · refine fr_callV (stk := []) (As := [.int v8]) cl_11 (hR_Mo_plainOf p0 v8) mt_Mo_plainOf rfl rfl sw_1491 sw_1493 sp_67 (by dsimp only [sf_deep]; omega) (Nat.le_of_ble_eq_true rfl) dd_Mo_bothOf_28 (fun x9 => fr_to (pc' := 31) (env' := [some (sf_rv p0), some (.int p1), some (.int b2), none]) (stk' := [.int x9]) rfl rfl rfl ?_)
        refine fp_istore_n (i := 3) dd_Mo_bothOf_31 rfl (Nat.le_of_ble_eq_true rfl) (fun _ => c1_i rfl) (fr_to (pc' := 32) (env' := [some (sf_rv p0), some (.int p1), some (.int b2), some (.int x9)]) (stk' := []) rfl rfl rfl ?_)
        refine fp_iload_n (i := 2) (x := b2) dd_Mo_bothOf_32 rfl rfl (fr_pc (pc' := 33) rfl ?_)
        refine fr_if_eq (tgt := 44) dd_Mo_bothOf_33 rfl (fun _ => ?_) (fun _ => ?_)
        · refine fp_iconst (v := (0 : Int32)) dd_Mo_bothOf_44 (by decide) (fr_pc (pc' := 45) rfl ?_)
          refine fp_istore_n (i := 2) dd_Mo_bothOf_45 rfl (Nat.le_of_ble_eq_true rfl) (fun _ => c1_i rfl) (fr_to (pc' := 46) (env' := [some (sf_rv p0), some (.int p1), some (.int (0 : Int32)), some (.int x9)]) (stk' := []) rfl rfl rfl ?_)
          refine fp_goto (tgt := 6) dd_Mo_bothOf_46 rfl ?_
          refine fr_wk [true, true, true, false] ?_
          exact fr_ret rfl
        · refine fr_pc (pc' := 36) rfl ?_
          refine fp_iload_n (i := 3) (x := x9) dd_Mo_bothOf_36 rfl rfl (fr_pc (pc' := 37) rfl ?_)
          refine fr_if_eq (tgt := 44) dd_Mo_bothOf_37 rfl (fun _ => ?_) (fun _ => ?_)
          · refine fp_iconst (v := (0 : Int32)) dd_Mo_bothOf_44 (by decide) (fr_pc (pc' := 45) rfl ?_)
            refine fp_istore_n (i := 2) dd_Mo_bothOf_45 rfl (Nat.le_of_ble_eq_true rfl) (fun _ => c1_i rfl) (fr_to (pc' := 46) (env' := [some (sf_rv p0), some (.int p1), some (.int (0 : Int32)), some (.int x9)]) (stk' := []) rfl rfl rfl ?_)
            refine fp_goto (tgt := 6) dd_Mo_bothOf_46 rfl ?_
            refine fr_wk [true, true, true, false] ?_
            exact fr_ret rfl
          · refine fr_pc (pc' := 40) rfl ?_
            refine fp_iconst (v := (1 : Int32)) dd_Mo_bothOf_40 (by decide) (fr_pc (pc' := 41) rfl ?_)
            refine fp_goto (tgt := 45) dd_Mo_bothOf_41 rfl ?_
            refine fp_istore_n (i := 2) dd_Mo_bothOf_45 rfl (Nat.le_of_ble_eq_true rfl) (fun _ => c1_i rfl) (fr_to (pc' := 46) (env' := [some (sf_rv p0), some (.int p1), some (.int (1 : Int32)), some (.int x9)]) (stk' := []) rfl rfl rfl ?_)
            refine fp_goto (tgt := 6) dd_Mo_bothOf_46 rfl ?_
            refine fr_wk [true, true, true, false] ?_
            exact fr_ret rfl
  · refine fp_iload_n (i := 2) (x := e12) dd_Mo_bothOf_49 rfl rfl (fr_pc (pc' := 50) rfl ?_)
    exact fr_zret (r := fun x13 => x13) (fun _ => rfl) rfl dd_Mo_bothOf_50
def jb_Mo_plainOf (R : Nat → Option Nat → Int32 → sf_M (Int32)) (p0 : Option Nat) (p1 : Int32) : sf_M (Int32) :=
  sf_bnd (sf_loop (β := (Int32)) (γ := (Int32)) (fun b1 =>
  sf_bnd (sf_rc 11 p0 (jx_Mo_passes0 p0 (6 : Int32))) fun x2 =>
  if x2 = 0 then (
  sf_ret (.inr b1)
  ) else (
  if b1 = 0 then (
  sf_ret (.inl (1 : Int32))
  ) else (
  sf_ret (.inl (0 : Int32))
  )
  )
  ) sf_fuel (0 : Int32)) (fun e5 =>
  sf_bnd (sf_rc 11 p0 (R 3 p0 p1)) fun x6 =>
  if x6 = e5 then (
  sf_ret (0 : Int32)
  ) else (
  sf_ret (1 : Int32)
  )
  )
set_option maxRecDepth 20000 in
set_option maxHeartbeats 4000000 in
theorem okb_Mo_plainOf (n : Nat) (R : Nat → Option Nat → Int32 → sf_M (Int32)) (hR_Mo_positiveOf : ∀ (a0 : Option Nat) (a1 : Int32), sf_Ok ({ cls := "SplitFaresModel", name := "positiveOf", desc := "(Z)Z" } : Jvm.MethodName) prog_13_method_70_code 7 (some .boolean) (104 + n) [sf_rv a0, .int a1] (R 3 a0 a1) (fun r => some (.int r))) (p0 : Option Nat) (p1 : Int32) : sf_Ok ({ cls := "SplitFaresModel", name := "plainOf", desc := "(Z)Z" } : Jvm.MethodName) prog_13_method_69_code 3 (some .boolean) (104 + n + 1) [sf_rv p0, .int p1] (jb_Mo_plainOf R p0 p1) (fun r => some (.int r)) := by
  refine sf_Ok.of (env := [some (sf_rv p0), some (.int p1), none]) (plainFor_of_name (by decide)) [false, false] (fun G => ⟨pk_r, pk_i, trivial⟩) (Nat.le_of_ble_eq_true rfl) rfl (fun X => ?_)
  unfold jb_Mo_plainOf
  refine fp_iconst (v := (0 : Int32)) dd_Mo_plainOf_0 (by decide) (fr_pc (pc' := 1) rfl ?_)
  refine fp_istore_n (i := 2) dd_Mo_plainOf_1 rfl (Nat.le_of_ble_eq_true rfl) (fun _ => c1_i rfl) (fr_to (pc' := 2) (env' := [some (sf_rv p0), some (.int p1), some (.int (0 : Int32))]) (stk' := []) rfl rfl rfl ?_)
  refine fr_to (pc' := 2) (env' := [some (sf_rv p0), some (.int p1), some (.int (0 : Int32))]) (stk' := []) rfl rfl rfl ?_
  refine fr_bnd (l1 := (fun (e5 : (Int32)) => sf_p 24 [some (sf_rv p0), some (.int p1), some (.int e5)] [])) (fr_loop (Lb := (fun (b1 : (Int32)) => sf_p 2 [some (sf_rv p0), some (.int p1), some (.int b1)] [])) (fun b1 => ?_) _ _) (fun e5 => ?_)
  · refine fp_aload_n (i := 0) (r := p0) dd_Mo_plainOf_2 rfl rfl (fr_pc (pc' := 3) rfl ?_)
    refine fp_bipush (v := (6 : Int32)) dd_Mo_plainOf_3 (by decide) (fr_pc (pc' := 5) rfl ?_)
    refine fr_callV (stk := []) (As := [.int (6 : Int32)]) cl_11 (ok_Mo_passes0 p0 (6 : Int32)) mt_Mo_passes0 rfl rfl sw_1461 sw_1463 sp_60 (by dsimp only [sf_deep]; omega) (Nat.le_of_ble_eq_true rfl) dd_Mo_plainOf_5 (fun x2 => fr_to (pc' := 8) (env' := [some (sf_rv p0), some (.int p1), some (.int b1)]) (stk' := [.int x2]) rfl rfl rfl ?_)
    refine fr_if_eq (tgt := 24) dd_Mo_plainOf_8 rfl (fun _ => ?_) (fun _ => ?_)
    · exact fr_ret rfl
    · refine fr_pc (pc' := 11) rfl ?_
      refine fp_iload_n (i := 2) (x := b1) dd_Mo_plainOf_11 rfl rfl (fr_pc (pc' := 12) rfl ?_)
      refine fr_if_ne (tgt := 19) dd_Mo_plainOf_12 rfl (fun _ => ?_) (fun _ => ?_)
      · refine fr_pc (pc' := 15) rfl ?_
        refine fp_iconst (v := (1 : Int32)) dd_Mo_plainOf_15 (by decide) (fr_pc (pc' := 16) rfl ?_)
        refine fp_goto (tgt := 20) dd_Mo_plainOf_16 rfl ?_
        refine fp_istore_n (i := 2) dd_Mo_plainOf_20 rfl (Nat.le_of_ble_eq_true rfl) (fun _ => c1_i rfl) (fr_to (pc' := 21) (env' := [some (sf_rv p0), some (.int p1), some (.int (1 : Int32))]) (stk' := []) rfl rfl rfl ?_)
        refine fp_goto (tgt := 2) dd_Mo_plainOf_21 rfl ?_
        exact fr_ret rfl
      · refine fp_iconst (v := (0 : Int32)) dd_Mo_plainOf_19 (by decide) (fr_pc (pc' := 20) rfl ?_)
        refine fp_istore_n (i := 2) dd_Mo_plainOf_20 rfl (Nat.le_of_ble_eq_true rfl) (fun _ => c1_i rfl) (fr_to (pc' := 21) (env' := [some (sf_rv p0), some (.int p1), some (.int (0 : Int32))]) (stk' := []) rfl rfl rfl ?_)
        refine fp_goto (tgt := 2) dd_Mo_plainOf_21 rfl ?_
        exact fr_ret rfl
  · refine fp_aload_n (i := 0) (r := p0) dd_Mo_plainOf_24 rfl rfl (fr_pc (pc' := 25) rfl ?_)
    refine fp_iload_n (i := 1) (x := p1) dd_Mo_plainOf_25 rfl rfl (fr_pc (pc' := 26) rfl ?_)
    refine fr_callV (stk := []) (As := [.int p1]) cl_11 (hR_Mo_positiveOf p0 p1) mt_Mo_positiveOf rfl rfl sw_1495 sw_1497 sp_68 (by dsimp only [sf_deep]; omega) (Nat.le_of_ble_eq_true rfl) dd_Mo_plainOf_26 (fun x6 => fr_to (pc' := 29) (env' := [some (sf_rv p0), some (.int p1), some (.int e5)]) (stk' := [.int x6]) rfl rfl rfl ?_)
    refine fp_iload_n (i := 2) (x := e5) dd_Mo_plainOf_29 rfl rfl (fr_pc (pc' := 30) rfl ?_)
    refine fr_icmp_eq (tgt := 37) dd_Mo_plainOf_30 rfl (fun _ => ?_) (fun _ => ?_)
    · refine fp_iconst (v := (0 : Int32)) dd_Mo_plainOf_37 (by decide) (fr_pc (pc' := 38) rfl ?_)
      exact fr_zret0 (v := (0 : Int32)) (Or.inl rfl) rfl rfl dd_Mo_plainOf_38
    · refine fr_pc (pc' := 33) rfl ?_
      refine fp_iconst (v := (1 : Int32)) dd_Mo_plainOf_33 (by decide) (fr_pc (pc' := 34) rfl ?_)
      refine fp_goto (tgt := 38) dd_Mo_plainOf_34 rfl ?_
      exact fr_zret0 (v := (1 : Int32)) (Or.inr rfl) rfl rfl dd_Mo_plainOf_38
def jb_Mo_positiveOf (R : Nat → Option Nat → Int32 → sf_M (Int32)) (p0 : Option Nat) (p1 : Int32) : sf_M (Int32) :=
  sf_bnd (jx_Mo_sign (40 : Int32)) fun x1 =>
  sf_bnd (sf_rc 11 p0 (jx_Mo_passes0 p0 x1)) fun x2 =>
  if x2 = 0 then (
  sf_bnd (sf_rc 11 p0 (jx_G4 sf_deep 0 p0 p1)) fun x4 =>
  sf_bnd (sf_gI 11 22 p0) fun x5 =>
  sf_bnd (sf_rc 11 p0 (jx_Mo_codeAt p0 x5)) fun x6 =>
  sf_bnd (sf_gI 11 22 p0) fun x7 =>
  sf_bnd (sf_pI 11 22 p0 (x7 + (1 : Int32))) fun _ =>
  sf_bnd (sf_rc 11 p0 (jx_G4 sf_deep 0 p0 p1)) fun x8 =>
  if p1 = 0 then (
  sf_ret (0 : Int32)
  ) else (
  sf_bnd (sf_gI 11 24 p0) fun x10 =>
  if x10 = 0 then (
  sf_bnd (jx_Mo_sign (60 : Int32)) fun x12 =>
  if x6 = x12 then (
  if 0 ≤ (lg_cmp x4 x8) then (
  sf_ret (0 : Int32)
  ) else (
  sf_ret (1 : Int32)
  )
  ) else (
  sf_bnd (jx_Mo_sign (62 : Int32)) fun x15 =>
  if x6 = x15 then (
  if (lg_cmp x4 x8) ≤ 0 then (
  sf_ret (0 : Int32)
  ) else (
  sf_ret (1 : Int32)
  )
  ) else (
  if (lg_cmp x4 x8) = 0 then (
  sf_ret (1 : Int32)
  ) else (
  sf_ret (0 : Int32)
  )
  )
  )
  ) else (
  sf_ret (0 : Int32)
  )
  )
  ) else (
  sf_bnd (sf_rc 11 p0 (R 0 p0 p1)) fun x19 =>
  sf_bnd (sf_gI 11 22 p0) fun x20 =>
  sf_bnd (sf_pI 11 22 p0 (x20 + (1 : Int32))) fun _ =>
  sf_bnd (sf_rz x19) fun x21 =>
  sf_ret x21
  )
set_option maxRecDepth 20000 in
set_option maxHeartbeats 4000000 in
theorem okb_Mo_positiveOf (n : Nat) (R : Nat → Option Nat → Int32 → sf_M (Int32)) (hR_Mo_testOf : ∀ (a0 : Option Nat) (a1 : Int32), sf_Ok ({ cls := "SplitFaresModel", name := "testOf", desc := "(Z)Z" } : Jvm.MethodName) prog_13_method_67_code 4 (some .boolean) (104 + n) [sf_rv a0, .int a1] (R 0 a0 a1) (fun r => some (.int r))) (p0 : Option Nat) (p1 : Int32) : sf_Ok ({ cls := "SplitFaresModel", name := "positiveOf", desc := "(Z)Z" } : Jvm.MethodName) prog_13_method_70_code 7 (some .boolean) (104 + n + 1) [sf_rv p0, .int p1] (jb_Mo_positiveOf R p0 p1) (fun r => some (.int r)) := by
  refine sf_Ok.of (env := [some (sf_rv p0), some (.int p1), none, none, none, none, none]) (plainFor_of_name (by decide)) [false, false] (fun G => ⟨pk_r, pk_i, trivial⟩) (Nat.le_of_ble_eq_true rfl) rfl (fun X => ?_)
  unfold jb_Mo_positiveOf
  refine fp_aload_n (i := 0) (r := p0) dd_Mo_positiveOf_0 rfl rfl (fr_pc (pc' := 1) rfl ?_)
  refine fp_bipush (v := (40 : Int32)) dd_Mo_positiveOf_1 (by decide) (fr_pc (pc' := 3) rfl ?_)
  refine fr_callS (stk := [sf_rv p0]) (ok_Mo_sign (40 : Int32)) mt_Mo_sign rfl rfl sw_1375 sw_1376 (by dsimp only [sf_deep]; omega) (Nat.le_of_ble_eq_true rfl) dd_Mo_positiveOf_3 (fun x1 => fr_to (pc' := 6) (env' := [some (sf_rv p0), some (.int p1), none, none, none, none, none]) (stk' := [.int x1, sf_rv p0]) rfl rfl rfl ?_)
  refine fr_callV (stk := []) (As := [.int x1]) cl_11 (ok_Mo_passes0 p0 x1) mt_Mo_passes0 rfl rfl sw_1461 sw_1463 sp_60 (by dsimp only [sf_deep]; omega) (Nat.le_of_ble_eq_true rfl) dd_Mo_positiveOf_6 (fun x2 => fr_to (pc' := 9) (env' := [some (sf_rv p0), some (.int p1), none, none, none, none, none]) (stk' := [.int x2]) rfl rfl rfl ?_)
  refine fr_if_eq (tgt := 30) dd_Mo_positiveOf_9 rfl (fun _ => ?_) (fun _ => ?_)
  · refine fp_aload_n (i := 0) (r := p0) dd_Mo_positiveOf_30 rfl rfl (fr_pc (pc' := 31) rfl ?_)
    refine fp_iload_n (i := 1) (x := p1) dd_Mo_positiveOf_31 rfl rfl (fr_pc (pc' := 32) rfl ?_)
    refine fr_callV (stk := []) (As := [.int p1]) cl_11 (ok_Mo_sumOf sf_deep p0 p1) mt_Mo_sumOf rfl rfl sw_1449 sw_1451 sp_57 (by dsimp only [sf_deep]; omega) (Nat.le_of_ble_eq_true rfl) dd_Mo_positiveOf_32 (fun x4 => fr_to (pc' := 35) (env' := [some (sf_rv p0), some (.int p1), none, none, none, none, none]) (stk' := [.long x4]) rfl rfl rfl ?_)
    refine fp_lstore_n (i := 2) dd_Mo_positiveOf_35 rfl (Nat.le_of_ble_eq_true rfl) (fun _ => c1_i rfl) (fr_to (pc' := 36) (env' := [some (sf_rv p0), some (.int p1), some (.long x4), none, none, none, none]) (stk' := []) rfl rfl rfl ?_)
    refine fp_aload_n (i := 0) (r := p0) dd_Mo_positiveOf_36 rfl rfl (fr_pc (pc' := 37) rfl ?_)
    refine fp_aload_n (i := 0) (r := p0) dd_Mo_positiveOf_37 rfl rfl (fr_pc (pc' := 38) rfl ?_)
    refine fr_gI cl_11 22 (by decide) rfl sw_1094 dd_Mo_positiveOf_38 (fun x5 => fr_pc (pc' := 41) rfl ?_)
    refine fr_callV (stk := []) (As := [.int x5]) cl_11 (ok_Mo_codeAt p0 x5) mt_Mo_codeAt rfl rfl sw_1445 sw_1447 sp_56 (by dsimp only [sf_deep]; omega) (Nat.le_of_ble_eq_true rfl) dd_Mo_positiveOf_41 (fun x6 => fr_to (pc' := 44) (env' := [some (sf_rv p0), some (.int p1), some (.long x4), none, none, none, none]) (stk' := [.int x6]) rfl rfl rfl ?_)
    refine fp_istore (i := 4) dd_Mo_positiveOf_44 (Nat.le_of_ble_eq_true rfl) (fun _ => c1_n rfl) (fr_to (pc' := 46) (env' := [some (sf_rv p0), some (.int p1), some (.long x4), none, some (.int x6), none, none]) (stk' := []) rfl rfl rfl ?_)
    refine fp_aload_n (i := 0) (r := p0) dd_Mo_positiveOf_46 rfl rfl (fr_pc (pc' := 47) rfl ?_)
    refine fp_dup_r dd_Mo_positiveOf_47 (fr_pc (pc' := 48) rfl ?_)
    refine fr_gI cl_11 22 (by decide) rfl sw_1094 dd_Mo_positiveOf_48 (fun x7 => fr_pc (pc' := 51) rfl ?_)
    refine fp_iconst (v := (1 : Int32)) dd_Mo_positiveOf_51 (by decide) (fr_pc (pc' := 52) rfl ?_)
    refine fp_iadd dd_Mo_positiveOf_52 (fr_pc (pc' := 53) rfl ?_)
    refine fr_pI cl_11 22 (by decide) rfl sw_1094 rfl ⟨rfl, rfl⟩ dd_Mo_positiveOf_53 (fr_pc (pc' := 56) rfl ?_)
    refine fp_aload_n (i := 0) (r := p0) dd_Mo_positiveOf_56 rfl rfl (fr_pc (pc' := 57) rfl ?_)
    refine fp_iload_n (i := 1) (x := p1) dd_Mo_positiveOf_57 rfl rfl (fr_pc (pc' := 58) rfl ?_)
    refine fr_callV (stk := []) (As := [.int p1]) cl_11 (ok_Mo_sumOf sf_deep p0 p1) mt_Mo_sumOf rfl rfl sw_1449 sw_1451 sp_57 (by dsimp only [sf_deep]; omega) (Nat.le_of_ble_eq_true rfl) dd_Mo_positiveOf_58 (fun x8 => fr_to (pc' := 61) (env' := [some (sf_rv p0), some (.int p1), some (.long x4), none, some (.int x6), none, none]) (stk' := [.long x8]) rfl rfl rfl ?_)
    refine fp_lstore (i := 5) dd_Mo_positiveOf_61 (Nat.le_of_ble_eq_true rfl) (fun _ => c1_i rfl) (fr_to (pc' := 63) (env' := [some (sf_rv p0), some (.int p1), some (.long x4), none, some (.int x6), some (.long x8), none]) (stk' := []) rfl rfl rfl ?_)
    refine fp_iload_n (i := 1) (x := p1) dd_Mo_positiveOf_63 rfl rfl (fr_pc (pc' := 64) rfl ?_)
    refine fr_if_eq (tgt := 125) dd_Mo_positiveOf_64 rfl (fun _ => ?_) (fun _ => ?_)
    · refine fp_iconst (v := (0 : Int32)) dd_Mo_positiveOf_125 (by decide) (fr_pc (pc' := 126) rfl ?_)
      exact fr_zret0 (v := (0 : Int32)) (Or.inl rfl) rfl rfl dd_Mo_positiveOf_126
    · refine fr_pc (pc' := 67) rfl ?_
      refine fp_aload_n (i := 0) (r := p0) dd_Mo_positiveOf_67 rfl rfl (fr_pc (pc' := 68) rfl ?_)
      refine fr_gI cl_11 24 (by decide) rfl sw_1096 dd_Mo_positiveOf_68 (fun x10 => fr_pc (pc' := 71) rfl ?_)
      refine fr_if_ne (tgt := 125) dd_Mo_positiveOf_71 rfl (fun _ => ?_) (fun _ => ?_)
      · refine fr_pc (pc' := 74) rfl ?_
        refine fp_iload (i := 4) (x := x6) dd_Mo_positiveOf_74 rfl (fr_pc (pc' := 76) rfl ?_)
        refine fp_bipush (v := (60 : Int32)) dd_Mo_positiveOf_76 (by decide) (fr_pc (pc' := 78) rfl ?_)
        refine fr_callS (stk := [.int x6]) (ok_Mo_sign (60 : Int32)) mt_Mo_sign rfl rfl sw_1375 sw_1376 (by dsimp only [sf_deep]; omega) (Nat.le_of_ble_eq_true rfl) dd_Mo_positiveOf_78 (fun x12 => fr_to (pc' := 81) (env' := [some (sf_rv p0), some (.int p1), some (.long x4), none, some (.int x6), some (.long x8), none]) (stk' := [.int x12, .int x6]) rfl rfl rfl ?_)
        refine fr_icmp_ne (tgt := 94) dd_Mo_positiveOf_81 rfl (fun _ => ?_) (fun _ => ?_)
        · refine fr_pc (pc' := 84) rfl ?_
          refine fp_lload_n (i := 2) (x := x4) dd_Mo_positiveOf_84 rfl rfl (fr_pc (pc' := 85) rfl ?_)
          refine fp_lload (i := 5) (x := x8) dd_Mo_positiveOf_85 rfl (fr_pc (pc' := 87) rfl ?_)
          refine fp_lcmp dd_Mo_positiveOf_87 (fr_pc (pc' := 88) rfl ?_)
          refine fr_if_ge (tgt := 125) dd_Mo_positiveOf_88 rfl (fun _ => ?_) (fun _ => ?_)
          · refine fp_iconst (v := (0 : Int32)) dd_Mo_positiveOf_125 (by decide) (fr_pc (pc' := 126) rfl ?_)
            exact fr_zret0 (v := (0 : Int32)) (Or.inl rfl) rfl rfl dd_Mo_positiveOf_126
          · refine fr_pc (pc' := 91) rfl ?_
            refine fp_goto (tgt := 121) dd_Mo_positiveOf_91 rfl ?_
            refine fp_iconst (v := (1 : Int32)) dd_Mo_positiveOf_121 (by decide) (fr_pc (pc' := 122) rfl ?_)
            refine fp_goto (tgt := 126) dd_Mo_positiveOf_122 rfl ?_
            exact fr_zret0 (v := (1 : Int32)) (Or.inr rfl) rfl rfl dd_Mo_positiveOf_126
        · refine fp_iload (i := 4) (x := x6) dd_Mo_positiveOf_94 rfl (fr_pc (pc' := 96) rfl ?_)
          refine fp_bipush (v := (62 : Int32)) dd_Mo_positiveOf_96 (by decide) (fr_pc (pc' := 98) rfl ?_)
          refine fr_callS (stk := [.int x6]) (ok_Mo_sign (62 : Int32)) mt_Mo_sign rfl rfl sw_1375 sw_1376 (by dsimp only [sf_deep]; omega) (Nat.le_of_ble_eq_true rfl) dd_Mo_positiveOf_98 (fun x15 => fr_to (pc' := 101) (env' := [some (sf_rv p0), some (.int p1), some (.long x4), none, some (.int x6), some (.long x8), none]) (stk' := [.int x15, .int x6]) rfl rfl rfl ?_)
          refine fr_icmp_ne (tgt := 114) dd_Mo_positiveOf_101 rfl (fun _ => ?_) (fun _ => ?_)
          · refine fr_pc (pc' := 104) rfl ?_
            refine fp_lload_n (i := 2) (x := x4) dd_Mo_positiveOf_104 rfl rfl (fr_pc (pc' := 105) rfl ?_)
            refine fp_lload (i := 5) (x := x8) dd_Mo_positiveOf_105 rfl (fr_pc (pc' := 107) rfl ?_)
            refine fp_lcmp dd_Mo_positiveOf_107 (fr_pc (pc' := 108) rfl ?_)
            refine fr_if_le (tgt := 125) dd_Mo_positiveOf_108 rfl (fun _ => ?_) (fun _ => ?_)
            · refine fp_iconst (v := (0 : Int32)) dd_Mo_positiveOf_125 (by decide) (fr_pc (pc' := 126) rfl ?_)
              exact fr_zret0 (v := (0 : Int32)) (Or.inl rfl) rfl rfl dd_Mo_positiveOf_126
            · refine fr_pc (pc' := 111) rfl ?_
              refine fp_goto (tgt := 121) dd_Mo_positiveOf_111 rfl ?_
              refine fp_iconst (v := (1 : Int32)) dd_Mo_positiveOf_121 (by decide) (fr_pc (pc' := 122) rfl ?_)
              refine fp_goto (tgt := 126) dd_Mo_positiveOf_122 rfl ?_
              exact fr_zret0 (v := (1 : Int32)) (Or.inr rfl) rfl rfl dd_Mo_positiveOf_126
          · refine fp_lload_n (i := 2) (x := x4) dd_Mo_positiveOf_114 rfl rfl (fr_pc (pc' := 115) rfl ?_)
            refine fp_lload (i := 5) (x := x8) dd_Mo_positiveOf_115 rfl (fr_pc (pc' := 117) rfl ?_)
            refine fp_lcmp dd_Mo_positiveOf_117 (fr_pc (pc' := 118) rfl ?_)
            refine fr_if_ne (tgt := 125) dd_Mo_positiveOf_118 rfl (fun _ => ?_) (fun _ => ?_)
            · refine fr_pc (pc' := 121) rfl ?_
              refine fp_iconst (v := (1 : Int32)) dd_Mo_positiveOf_121 (by decide) (fr_pc (pc' := 122) rfl ?_)
              refine fp_goto (tgt := 126) dd_Mo_positiveOf_122 rfl ?_
              exact fr_zret0 (v := (1 : Int32)) (Or.inr rfl) rfl rfl dd_Mo_positiveOf_126
            · refine fp_iconst (v := (0 : Int32)) dd_Mo_positiveOf_125 (by decide) (fr_pc (pc' := 126) rfl ?_)
              exact fr_zret0 (v := (0 : Int32)) (Or.inl rfl) rfl rfl dd_Mo_positiveOf_126
      · refine fp_iconst (v := (0 : Int32)) dd_Mo_positiveOf_125 (by decide) (fr_pc (pc' := 126) rfl ?_)
        exact fr_zret0 (v := (0 : Int32)) (Or.inl rfl) rfl rfl dd_Mo_positiveOf_126
  · refine fr_pc (pc' := 12) rfl ?_
    refine fp_aload_n (i := 0) (r := p0) dd_Mo_positiveOf_12 rfl rfl (fr_pc (pc' := 13) rfl ?_)
    refine fp_iload_n (i := 1) (x := p1) dd_Mo_positiveOf_13 rfl rfl (fr_pc (pc' := 14) rfl ?_)
    refine fr_callV (stk := []) (As := [.int p1]) cl_11 (hR_Mo_testOf p0 p1) mt_Mo_testOf rfl rfl sw_1483 sw_1485 sp_65 (by dsimp only [sf_deep]; omega) (Nat.le_of_ble_eq_true rfl) dd_Mo_positiveOf_14 (fun x19 => fr_to (pc' := 17) (env' := [some (sf_rv p0), some (.int p1), none, none, none, none, none]) (stk' := [.int x19]) rfl rfl rfl ?_)
    refine fp_istore_n (i := 2) dd_Mo_positiveOf_17 rfl (Nat.le_of_ble_eq_true rfl) (fun _ => c1_i rfl) (fr_to (pc' := 18) (env' := [some (sf_rv p0), some (.int p1), some (.int x19), none, none, none, none]) (stk' := []) rfl rfl rfl ?_)
    refine fp_aload_n (i := 0) (r := p0) dd_Mo_positiveOf_18 rfl rfl (fr_pc (pc' := 19) rfl ?_)
    refine fp_dup_r dd_Mo_positiveOf_19 (fr_pc (pc' := 20) rfl ?_)
    refine fr_gI cl_11 22 (by decide) rfl sw_1094 dd_Mo_positiveOf_20 (fun x20 => fr_pc (pc' := 23) rfl ?_)
    refine fp_iconst (v := (1 : Int32)) dd_Mo_positiveOf_23 (by decide) (fr_pc (pc' := 24) rfl ?_)
    refine fp_iadd dd_Mo_positiveOf_24 (fr_pc (pc' := 25) rfl ?_)
    refine fr_pI cl_11 22 (by decide) rfl sw_1094 rfl ⟨rfl, rfl⟩ dd_Mo_positiveOf_25 (fr_pc (pc' := 28) rfl ?_)
    refine fp_iload_n (i := 2) (x := x19) dd_Mo_positiveOf_28 rfl rfl (fr_pc (pc' := 29) rfl ?_)
    exact fr_zret (r := fun x21 => x21) (fun _ => rfl) rfl dd_Mo_positiveOf_29
def jx_G5 : Nat → Nat → Option Nat → Int32 → sf_M (Int32)
  | 0, _, _, _ => sf_nil
  | n + 1, t, a0, a1 => if t = 0 then jb_Mo_testOf (jx_G5 n) a0 a1 else if t = 1 then jb_Mo_bothOf (jx_G5 n) a0 a1 else if t = 2 then jb_Mo_plainOf (jx_G5 n) a0 a1 else jb_Mo_positiveOf (jx_G5 n) a0 a1
theorem okG_5 : ∀ (n : Nat) (a0 : Option Nat) (a1 : Int32), (sf_Ok ({ cls := "SplitFaresModel", name := "testOf", desc := "(Z)Z" } : Jvm.MethodName) prog_13_method_67_code 4 (some .boolean) (104 + n) [sf_rv a0, .int a1] (jx_G5 n 0 a0 a1) (fun r => some (.int r))) ∧ (sf_Ok ({ cls := "SplitFaresModel", name := "bothOf", desc := "(Z)Z" } : Jvm.MethodName) prog_13_method_68_code 4 (some .boolean) (104 + n) [sf_rv a0, .int a1] (jx_G5 n 1 a0 a1) (fun r => some (.int r))) ∧ (sf_Ok ({ cls := "SplitFaresModel", name := "plainOf", desc := "(Z)Z" } : Jvm.MethodName) prog_13_method_69_code 3 (some .boolean) (104 + n) [sf_rv a0, .int a1] (jx_G5 n 2 a0 a1) (fun r => some (.int r))) ∧ (sf_Ok ({ cls := "SplitFaresModel", name := "positiveOf", desc := "(Z)Z" } : Jvm.MethodName) prog_13_method_70_code 7 (some .boolean) (104 + n) [sf_rv a0, .int a1] (jx_G5 n 3 a0 a1) (fun r => some (.int r)))
  | 0, _, _ => ⟨sf_Ok.nil, sf_Ok.nil, sf_Ok.nil, sf_Ok.nil⟩
  | n + 1, a0, a1 => ⟨okb_Mo_testOf n (jx_G5 n) (fun b0 b1 => (okG_5 n b0 b1).2.1) a0 a1, okb_Mo_bothOf n (jx_G5 n) (fun b0 b1 => (okG_5 n b0 b1).2.2.1) a0 a1, okb_Mo_plainOf n (jx_G5 n) (fun b0 b1 => (okG_5 n b0 b1).2.2.2) a0 a1, okb_Mo_positiveOf n (jx_G5 n) (fun b0 b1 => (okG_5 n b0 b1).1) a0 a1⟩
theorem ok_Mo_testOf (n : Nat) (a0 : Option Nat) (a1 : Int32) : sf_Ok ({ cls := "SplitFaresModel", name := "testOf", desc := "(Z)Z" } : Jvm.MethodName) prog_13_method_67_code 4 (some .boolean) (104 + n) [sf_rv a0, .int a1] (jx_G5 n 0 a0 a1) (fun r => some (.int r)) := (okG_5 n a0 a1).1
theorem ok_Mo_bothOf (n : Nat) (a0 : Option Nat) (a1 : Int32) : sf_Ok ({ cls := "SplitFaresModel", name := "bothOf", desc := "(Z)Z" } : Jvm.MethodName) prog_13_method_68_code 4 (some .boolean) (104 + n) [sf_rv a0, .int a1] (jx_G5 n 1 a0 a1) (fun r => some (.int r)) := (okG_5 n a0 a1).2.1
theorem ok_Mo_plainOf (n : Nat) (a0 : Option Nat) (a1 : Int32) : sf_Ok ({ cls := "SplitFaresModel", name := "plainOf", desc := "(Z)Z" } : Jvm.MethodName) prog_13_method_69_code 3 (some .boolean) (104 + n) [sf_rv a0, .int a1] (jx_G5 n 2 a0 a1) (fun r => some (.int r)) := (okG_5 n a0 a1).2.2.1
theorem ok_Mo_positiveOf (n : Nat) (a0 : Option Nat) (a1 : Int32) : sf_Ok ({ cls := "SplitFaresModel", name := "positiveOf", desc := "(Z)Z" } : Jvm.MethodName) prog_13_method_70_code 7 (some .boolean) (104 + n) [sf_rv a0, .int a1] (jx_G5 n 3 a0 a1) (fun r => some (.int r)) := (okG_5 n a0 a1).2.2.2
theorem mt_Mo_far : sf_Mt ({ cls := "SplitFaresModel", name := "far", desc := "(II)I" } : Jvm.MethodName) prog_13_method_71_code 2 (some .int) 2 := ⟨sw_1440, sw_12, ⟨by decide, by decide, by decide +kernel⟩, by decide⟩
theorem dd_Mo_far_0 : decode prog_13_method_71_code 0 = .ok (.iload_n 0, 1) := by decide +kernel
theorem dd_Mo_far_1 : decode prog_13_method_71_code 1 = .ok (.iload_n 1, 1) := by decide +kernel
theorem dd_Mo_far_2 : decode prog_13_method_71_code 2 = .ok (.if_icmp .ge 9, 3) := by decide +kernel
theorem dd_Mo_far_5 : decode prog_13_method_71_code 5 = .ok (.iload_n 1, 1) := by decide +kernel
theorem dd_Mo_far_6 : decode prog_13_method_71_code 6 = .ok (.iload_n 0, 1) := by decide +kernel
theorem dd_Mo_far_7 : decode prog_13_method_71_code 7 = .ok (.isub, 1) := by decide +kernel
theorem dd_Mo_far_8 : decode prog_13_method_71_code 8 = .ok (.goto 6, 3) := by decide +kernel
theorem dd_Mo_far_11 : decode prog_13_method_71_code 11 = .ok (.iload_n 0, 1) := by decide +kernel
theorem dd_Mo_far_12 : decode prog_13_method_71_code 12 = .ok (.iload_n 1, 1) := by decide +kernel
theorem dd_Mo_far_13 : decode prog_13_method_71_code 13 = .ok (.isub, 1) := by decide +kernel
theorem dd_Mo_far_14 : decode prog_13_method_71_code 14 = .ok (.ireturn, 1) := by decide +kernel
def jx_Mo_far (p0 : Int32) (p1 : Int32) : sf_M (Int32) :=
  if p1 ≤ p0 then (
  sf_ret (p0 - p1)
  ) else (
  sf_ret (p1 - p0)
  )
set_option maxRecDepth 20000 in
set_option maxHeartbeats 4000000 in
theorem ok_Mo_far (p0 : Int32) (p1 : Int32) : sf_Ok ({ cls := "SplitFaresModel", name := "far", desc := "(II)I" } : Jvm.MethodName) prog_13_method_71_code 2 (some .int) 0 [.int p0, .int p1] (jx_Mo_far p0 p1) (fun r => some (.int r)) := by
  refine sf_Ok.of (env := [some (.int p0), some (.int p1)]) (plainFor_of_name (by decide)) [false, false] (fun G => ⟨pk_i, pk_i, trivial⟩) (Nat.le_of_ble_eq_true rfl) rfl (fun X => ?_)
  unfold jx_Mo_far
  refine fp_iload_n (i := 0) (x := p0) dd_Mo_far_0 rfl rfl (fr_pc (pc' := 1) rfl ?_)
  refine fp_iload_n (i := 1) (x := p1) dd_Mo_far_1 rfl rfl (fr_pc (pc' := 2) rfl ?_)
  refine fr_icmp_ge (tgt := 11) dd_Mo_far_2 rfl (fun _ => ?_) (fun _ => ?_)
  · refine fp_iload_n (i := 0) (x := p0) dd_Mo_far_11 rfl rfl (fr_pc (pc' := 12) rfl ?_)
    refine fp_iload_n (i := 1) (x := p1) dd_Mo_far_12 rfl rfl (fr_pc (pc' := 13) rfl ?_)
    refine fp_isub dd_Mo_far_13 (fr_pc (pc' := 14) rfl ?_)
    exact fr_iret (v := (p0 - p1)) rfl rfl dd_Mo_far_14
  · refine fr_pc (pc' := 5) rfl ?_
    refine fp_iload_n (i := 1) (x := p1) dd_Mo_far_5 rfl rfl (fr_pc (pc' := 6) rfl ?_)
    refine fp_iload_n (i := 0) (x := p0) dd_Mo_far_6 rfl rfl (fr_pc (pc' := 7) rfl ?_)
    refine fp_isub dd_Mo_far_7 (fr_pc (pc' := 8) rfl ?_)
    refine fp_goto (tgt := 14) dd_Mo_far_8 rfl ?_
    exact fr_iret (v := (p1 - p0)) rfl rfl dd_Mo_far_14
theorem mt_Mo_setsAsked : sf_Mt ({ cls := "SplitFaresModel", name := "setsAsked", desc := "(IIII)V" } : Jvm.MethodName) prog_13_method_72_code 5 none 4 := ⟨sw_1437, sw_12, ⟨by decide, by decide, by decide +kernel⟩, by decide⟩
theorem dd_Mo_setsAsked_0 : decode prog_13_method_72_code 0 = .ok (.aload_n 0, 1) := by decide +kernel
theorem dd_Mo_setsAsked_1 : decode prog_13_method_72_code 1 = .ok (.getfield 67, 3) := by decide +kernel
theorem dd_Mo_setsAsked_4 : decode prog_13_method_72_code 4 = .ok (.iconst 0, 1) := by decide +kernel
theorem dd_Mo_setsAsked_5 : decode prog_13_method_72_code 5 = .ok (.iload_n 2, 1) := by decide +kernel
theorem dd_Mo_setsAsked_6 : decode prog_13_method_72_code 6 = .ok (.iastore, 1) := by decide +kernel
theorem dd_Mo_setsAsked_7 : decode prog_13_method_72_code 7 = .ok (.aload_n 0, 1) := by decide +kernel
theorem dd_Mo_setsAsked_8 : decode prog_13_method_72_code 8 = .ok (.getfield 67, 3) := by decide +kernel
theorem dd_Mo_setsAsked_11 : decode prog_13_method_72_code 11 = .ok (.iconst 1, 1) := by decide +kernel
theorem dd_Mo_setsAsked_12 : decode prog_13_method_72_code 12 = .ok (.iload_n 2, 1) := by decide +kernel
theorem dd_Mo_setsAsked_13 : decode prog_13_method_72_code 13 = .ok (.iload_n 3, 1) := by decide +kernel
theorem dd_Mo_setsAsked_14 : decode prog_13_method_72_code 14 = .ok (.invokestatic 323, 3) := by decide +kernel
theorem dd_Mo_setsAsked_17 : decode prog_13_method_72_code 17 = .ok (.iastore, 1) := by decide +kernel
theorem dd_Mo_setsAsked_18 : decode prog_13_method_72_code 18 = .ok (.aload_n 0, 1) := by decide +kernel
theorem dd_Mo_setsAsked_19 : decode prog_13_method_72_code 19 = .ok (.getfield 67, 3) := by decide +kernel
theorem dd_Mo_setsAsked_22 : decode prog_13_method_72_code 22 = .ok (.iconst 2, 1) := by decide +kernel
theorem dd_Mo_setsAsked_23 : decode prog_13_method_72_code 23 = .ok (.iload 4, 2) := by decide +kernel
theorem dd_Mo_setsAsked_25 : decode prog_13_method_72_code 25 = .ok (.iastore, 1) := by decide +kernel
theorem dd_Mo_setsAsked_26 : decode prog_13_method_72_code 26 = .ok (.aload_n 0, 1) := by decide +kernel
theorem dd_Mo_setsAsked_27 : decode prog_13_method_72_code 27 = .ok (.getfield 67, 3) := by decide +kernel
theorem dd_Mo_setsAsked_30 : decode prog_13_method_72_code 30 = .ok (.iconst 3, 1) := by decide +kernel
theorem dd_Mo_setsAsked_31 : decode prog_13_method_72_code 31 = .ok (.aload_n 0, 1) := by decide +kernel
theorem dd_Mo_setsAsked_32 : decode prog_13_method_72_code 32 = .ok (.getfield 32, 3) := by decide +kernel
theorem dd_Mo_setsAsked_35 : decode prog_13_method_72_code 35 = .ok (.sipush 226, 3) := by decide +kernel
theorem dd_Mo_setsAsked_38 : decode prog_13_method_72_code 38 = .ok (.iaload, 1) := by decide +kernel
theorem dd_Mo_setsAsked_39 : decode prog_13_method_72_code 39 = .ok (.iastore, 1) := by decide +kernel
theorem dd_Mo_setsAsked_40 : decode prog_13_method_72_code 40 = .ok (.aload_n 0, 1) := by decide +kernel
theorem dd_Mo_setsAsked_41 : decode prog_13_method_72_code 41 = .ok (.getfield 67, 3) := by decide +kernel
theorem dd_Mo_setsAsked_44 : decode prog_13_method_72_code 44 = .ok (.iconst 4, 1) := by decide +kernel
theorem dd_Mo_setsAsked_45 : decode prog_13_method_72_code 45 = .ok (.iload_n 1, 1) := by decide +kernel
theorem dd_Mo_setsAsked_46 : decode prog_13_method_72_code 46 = .ok (.iastore, 1) := by decide +kernel
theorem dd_Mo_setsAsked_47 : decode prog_13_method_72_code 47 = .ok (.aload_n 0, 1) := by decide +kernel
theorem dd_Mo_setsAsked_48 : decode prog_13_method_72_code 48 = .ok (.getfield 67, 3) := by decide +kernel
theorem dd_Mo_setsAsked_51 : decode prog_13_method_72_code 51 = .ok (.iconst 5, 1) := by decide +kernel
theorem dd_Mo_setsAsked_52 : decode prog_13_method_72_code 52 = .ok (.iload_n 3, 1) := by decide +kernel
theorem dd_Mo_setsAsked_53 : decode prog_13_method_72_code 53 = .ok (.iastore, 1) := by decide +kernel
theorem dd_Mo_setsAsked_54 : decode prog_13_method_72_code 54 = .ok (.aload_n 0, 1) := by decide +kernel
theorem dd_Mo_setsAsked_55 : decode prog_13_method_72_code 55 = .ok (.getfield 67, 3) := by decide +kernel
theorem dd_Mo_setsAsked_58 : decode prog_13_method_72_code 58 = .ok (.bipush 6, 2) := by decide +kernel
theorem dd_Mo_setsAsked_60 : decode prog_13_method_72_code 60 = .ok (.aload_n 0, 1) := by decide +kernel
theorem dd_Mo_setsAsked_61 : decode prog_13_method_72_code 61 = .ok (.getfield 32, 3) := by decide +kernel
theorem dd_Mo_setsAsked_64 : decode prog_13_method_72_code 64 = .ok (.sipush 194, 3) := by decide +kernel
theorem dd_Mo_setsAsked_67 : decode prog_13_method_72_code 67 = .ok (.iaload, 1) := by decide +kernel
theorem dd_Mo_setsAsked_68 : decode prog_13_method_72_code 68 = .ok (.iastore, 1) := by decide +kernel
theorem dd_Mo_setsAsked_69 : decode prog_13_method_72_code 69 = .ok (.return_, 1) := by decide +kernel
def jx_Mo_setsAsked (p0 : Option Nat) (p1 : Int32) (p2 : Int32) (p3 : Int32) (p4 : Int32) : sf_M (Unit) :=
  sf_bnd (sf_gR 11 26 p0) fun x1 =>
  sf_bnd (sf_sI 0 x1 (0 : Int32) p2) fun _ =>
  sf_bnd (sf_gR 11 26 p0) fun x2 =>
  sf_bnd (jx_Mo_far p2 p3) fun x3 =>
  sf_bnd (sf_sI 0 x2 (1 : Int32) x3) fun _ =>
  sf_bnd (sf_gR 11 26 p0) fun x4 =>
  sf_bnd (sf_sI 0 x4 (2 : Int32) p4) fun _ =>
  sf_bnd (sf_gR 11 26 p0) fun x5 =>
  sf_bnd (sf_gR 11 2 p0) fun x6 =>
  sf_bnd (sf_aI 0 x6 (226 : Int32)) fun x7 =>
  sf_bnd (sf_sI 0 x5 (3 : Int32) x7) fun _ =>
  sf_bnd (sf_gR 11 26 p0) fun x8 =>
  sf_bnd (sf_sI 0 x8 (4 : Int32) p1) fun _ =>
  sf_bnd (sf_gR 11 26 p0) fun x9 =>
  sf_bnd (sf_sI 0 x9 (5 : Int32) p3) fun _ =>
  sf_bnd (sf_gR 11 26 p0) fun x10 =>
  sf_bnd (sf_gR 11 2 p0) fun x11 =>
  sf_bnd (sf_aI 0 x11 (194 : Int32)) fun x12 =>
  sf_bnd (sf_sI 0 x10 (6 : Int32) x12) fun _ =>
  sf_ret ()
set_option maxRecDepth 20000 in
set_option maxHeartbeats 4000000 in
theorem ok_Mo_setsAsked (p0 : Option Nat) (p1 : Int32) (p2 : Int32) (p3 : Int32) (p4 : Int32) : sf_Ok ({ cls := "SplitFaresModel", name := "setsAsked", desc := "(IIII)V" } : Jvm.MethodName) prog_13_method_72_code 5 none 1 [sf_rv p0, .int p1, .int p2, .int p3, .int p4] (jx_Mo_setsAsked p0 p1 p2 p3 p4) (fun _ => none) := by
  refine sf_Ok.of (env := [some (sf_rv p0), some (.int p1), some (.int p2), some (.int p3), some (.int p4)]) (plainFor_of_name (by decide)) [false, false, false, false, false] (fun G => ⟨pk_r, pk_i, pk_i, pk_i, pk_i, trivial⟩) (Nat.le_of_ble_eq_true rfl) rfl (fun X => ?_)
  unfold jx_Mo_setsAsked
  refine fp_aload_n (i := 0) (r := p0) dd_Mo_setsAsked_0 rfl rfl (fr_pc (pc' := 1) rfl ?_)
  refine fr_gR cl_11 26 (by decide) rfl sw_1098 dd_Mo_setsAsked_1 (fun x1 => fr_pc (pc' := 4) rfl ?_)
  refine fp_iconst (v := (0 : Int32)) dd_Mo_setsAsked_4 (by decide) (fr_pc (pc' := 5) rfl ?_)
  refine fp_iload_n (i := 2) (x := p2) dd_Mo_setsAsked_5 rfl rfl (fr_pc (pc' := 6) rfl ?_)
  refine fr_sI0 dd_Mo_setsAsked_6 (fr_pc (pc' := 7) rfl ?_)
  refine fp_aload_n (i := 0) (r := p0) dd_Mo_setsAsked_7 rfl rfl (fr_pc (pc' := 8) rfl ?_)
  refine fr_gR cl_11 26 (by decide) rfl sw_1098 dd_Mo_setsAsked_8 (fun x2 => fr_pc (pc' := 11) rfl ?_)
  refine fp_iconst (v := (1 : Int32)) dd_Mo_setsAsked_11 (by decide) (fr_pc (pc' := 12) rfl ?_)
  refine fp_iload_n (i := 2) (x := p2) dd_Mo_setsAsked_12 rfl rfl (fr_pc (pc' := 13) rfl ?_)
  refine fp_iload_n (i := 3) (x := p3) dd_Mo_setsAsked_13 rfl rfl (fr_pc (pc' := 14) rfl ?_)
  refine fr_callS (stk := [.int (1 : Int32), sf_rv x2]) (ok_Mo_far p2 p3) mt_Mo_far rfl rfl sw_1438 sw_1439 (by decide) (Nat.le_of_ble_eq_true rfl) dd_Mo_setsAsked_14 (fun x3 => fr_to (pc' := 17) (env' := [some (sf_rv p0), some (.int p1), some (.int p2), some (.int p3), some (.int p4)]) (stk' := [.int x3, .int (1 : Int32), sf_rv x2]) rfl rfl rfl ?_)
  refine fr_sI0 dd_Mo_setsAsked_17 (fr_pc (pc' := 18) rfl ?_)
  refine fp_aload_n (i := 0) (r := p0) dd_Mo_setsAsked_18 rfl rfl (fr_pc (pc' := 19) rfl ?_)
  refine fr_gR cl_11 26 (by decide) rfl sw_1098 dd_Mo_setsAsked_19 (fun x4 => fr_pc (pc' := 22) rfl ?_)
  refine fp_iconst (v := (2 : Int32)) dd_Mo_setsAsked_22 (by decide) (fr_pc (pc' := 23) rfl ?_)
  refine fp_iload (i := 4) (x := p4) dd_Mo_setsAsked_23 rfl (fr_pc (pc' := 25) rfl ?_)
  refine fr_sI0 dd_Mo_setsAsked_25 (fr_pc (pc' := 26) rfl ?_)
  refine fp_aload_n (i := 0) (r := p0) dd_Mo_setsAsked_26 rfl rfl (fr_pc (pc' := 27) rfl ?_)
  refine fr_gR cl_11 26 (by decide) rfl sw_1098 dd_Mo_setsAsked_27 (fun x5 => fr_pc (pc' := 30) rfl ?_)
  refine fp_iconst (v := (3 : Int32)) dd_Mo_setsAsked_30 (by decide) (fr_pc (pc' := 31) rfl ?_)
  refine fp_aload_n (i := 0) (r := p0) dd_Mo_setsAsked_31 rfl rfl (fr_pc (pc' := 32) rfl ?_)
  refine fr_gR cl_11 2 (by decide) rfl sw_1074 dd_Mo_setsAsked_32 (fun x6 => fr_pc (pc' := 35) rfl ?_)
  refine fp_sipush (v := (226 : Int32)) dd_Mo_setsAsked_35 (by decide) (fr_pc (pc' := 38) rfl ?_)
  refine fr_aI0 dd_Mo_setsAsked_38 (fun x7 => fr_pc (pc' := 39) rfl ?_)
  refine fr_sI0 dd_Mo_setsAsked_39 (fr_pc (pc' := 40) rfl ?_)
  refine fp_aload_n (i := 0) (r := p0) dd_Mo_setsAsked_40 rfl rfl (fr_pc (pc' := 41) rfl ?_)
  refine fr_gR cl_11 26 (by decide) rfl sw_1098 dd_Mo_setsAsked_41 (fun x8 => fr_pc (pc' := 44) rfl ?_)
  refine fp_iconst (v := (4 : Int32)) dd_Mo_setsAsked_44 (by decide) (fr_pc (pc' := 45) rfl ?_)
  refine fp_iload_n (i := 1) (x := p1) dd_Mo_setsAsked_45 rfl rfl (fr_pc (pc' := 46) rfl ?_)
  refine fr_sI0 dd_Mo_setsAsked_46 (fr_pc (pc' := 47) rfl ?_)
  refine fp_aload_n (i := 0) (r := p0) dd_Mo_setsAsked_47 rfl rfl (fr_pc (pc' := 48) rfl ?_)
  refine fr_gR cl_11 26 (by decide) rfl sw_1098 dd_Mo_setsAsked_48 (fun x9 => fr_pc (pc' := 51) rfl ?_)
  refine fp_iconst (v := (5 : Int32)) dd_Mo_setsAsked_51 (by decide) (fr_pc (pc' := 52) rfl ?_)
  refine fp_iload_n (i := 3) (x := p3) dd_Mo_setsAsked_52 rfl rfl (fr_pc (pc' := 53) rfl ?_)
  refine fr_sI0 dd_Mo_setsAsked_53 (fr_pc (pc' := 54) rfl ?_)
  refine fp_aload_n (i := 0) (r := p0) dd_Mo_setsAsked_54 rfl rfl (fr_pc (pc' := 55) rfl ?_)
  refine fr_gR cl_11 26 (by decide) rfl sw_1098 dd_Mo_setsAsked_55 (fun x10 => fr_pc (pc' := 58) rfl ?_)
  refine fp_bipush (v := (6 : Int32)) dd_Mo_setsAsked_58 (by decide) (fr_pc (pc' := 60) rfl ?_)
  refine fp_aload_n (i := 0) (r := p0) dd_Mo_setsAsked_60 rfl rfl (fr_pc (pc' := 61) rfl ?_)
  refine fr_gR cl_11 2 (by decide) rfl sw_1074 dd_Mo_setsAsked_61 (fun x11 => fr_pc (pc' := 64) rfl ?_)
  refine fp_sipush (v := (194 : Int32)) dd_Mo_setsAsked_64 (by decide) (fr_pc (pc' := 67) rfl ?_)
  refine fr_aI0 dd_Mo_setsAsked_67 (fun x12 => fr_pc (pc' := 68) rfl ?_)
  refine fr_sI0 dd_Mo_setsAsked_68 (fr_pc (pc' := 69) rfl ?_)
  exact fr_vret rfl rfl dd_Mo_setsAsked_69
theorem mt_Mo_tells : sf_Mt ({ cls := "SplitFaresModel", name := "tells", desc := "(II)I" } : Jvm.MethodName) prog_13_method_73_code 10 (some .int) 2 := ⟨sw_1444, sw_12, ⟨by decide, by decide, by decide +kernel⟩, by decide⟩
theorem dd_Mo_tells_0 : decode prog_13_method_73_code 0 = .ok (.aload_n 0, 1) := by decide +kernel
theorem dd_Mo_tells_1 : decode prog_13_method_73_code 1 = .ok (.getfield 32, 3) := by decide +kernel
theorem dd_Mo_tells_4 : decode prog_13_method_73_code 4 = .ok (.sipush 230, 3) := by decide +kernel
theorem dd_Mo_tells_7 : decode prog_13_method_73_code 7 = .ok (.iaload, 1) := by decide +kernel
theorem dd_Mo_tells_8 : decode prog_13_method_73_code 8 = .ok (.iconst (-1), 1) := by decide +kernel
theorem dd_Mo_tells_9 : decode prog_13_method_73_code 9 = .ok (.if_icmp .ne 5, 3) := by decide +kernel
theorem dd_Mo_tells_12 : decode prog_13_method_73_code 12 = .ok (.iload_n 2, 1) := by decide +kernel
theorem dd_Mo_tells_13 : decode prog_13_method_73_code 13 = .ok (.ireturn, 1) := by decide +kernel
theorem dd_Mo_tells_14 : decode prog_13_method_73_code 14 = .ok (.aload_n 0, 1) := by decide +kernel
theorem dd_Mo_tells_15 : decode prog_13_method_73_code 15 = .ok (.iconst 0, 1) := by decide +kernel
theorem dd_Mo_tells_16 : decode prog_13_method_73_code 16 = .ok (.putfield 295, 3) := by decide +kernel
theorem dd_Mo_tells_19 : decode prog_13_method_73_code 19 = .ok (.iload_n 2, 1) := by decide +kernel
theorem dd_Mo_tells_20 : decode prog_13_method_73_code 20 = .ok (.i2l, 1) := by decide +kernel
theorem dd_Mo_tells_21 : decode prog_13_method_73_code 21 = .ok (.lstore_n 3, 1) := by decide +kernel
theorem dd_Mo_tells_22 : decode prog_13_method_73_code 22 = .ok (.aload_n 0, 1) := by decide +kernel
theorem dd_Mo_tells_23 : decode prog_13_method_73_code 23 = .ok (.sipush 400, 3) := by decide +kernel
theorem dd_Mo_tells_26 : decode prog_13_method_73_code 26 = .ok (.aload_n 0, 1) := by decide +kernel
theorem dd_Mo_tells_27 : decode prog_13_method_73_code 27 = .ok (.getfield 32, 3) := by decide +kernel
theorem dd_Mo_tells_30 : decode prog_13_method_73_code 30 = .ok (.sipush 230, 3) := by decide +kernel
theorem dd_Mo_tells_33 : decode prog_13_method_73_code 33 = .ok (.iaload, 1) := by decide +kernel
theorem dd_Mo_tells_34 : decode prog_13_method_73_code 34 = .ok (.imul, 1) := by decide +kernel
theorem dd_Mo_tells_35 : decode prog_13_method_73_code 35 = .ok (.putfield 265, 3) := by decide +kernel
theorem dd_Mo_tells_38 : decode prog_13_method_73_code 38 = .ok (.aload_n 0, 1) := by decide +kernel
theorem dd_Mo_tells_39 : decode prog_13_method_73_code 39 = .ok (.aload_n 0, 1) := by decide +kernel
theorem dd_Mo_tells_40 : decode prog_13_method_73_code 40 = .ok (.getfield 265, 3) := by decide +kernel
theorem dd_Mo_tells_43 : decode prog_13_method_73_code 43 = .ok (.aload_n 0, 1) := by decide +kernel
theorem dd_Mo_tells_44 : decode prog_13_method_73_code 44 = .ok (.getfield 32, 3) := by decide +kernel
theorem dd_Mo_tells_47 : decode prog_13_method_73_code 47 = .ok (.sipush 231, 3) := by decide +kernel
theorem dd_Mo_tells_50 : decode prog_13_method_73_code 50 = .ok (.aload_n 0, 1) := by decide +kernel
theorem dd_Mo_tells_51 : decode prog_13_method_73_code 51 = .ok (.getfield 32, 3) := by decide +kernel
theorem dd_Mo_tells_54 : decode prog_13_method_73_code 54 = .ok (.sipush 230, 3) := by decide +kernel
theorem dd_Mo_tells_57 : decode prog_13_method_73_code 57 = .ok (.iaload, 1) := by decide +kernel
theorem dd_Mo_tells_58 : decode prog_13_method_73_code 58 = .ok (.iadd, 1) := by decide +kernel
theorem dd_Mo_tells_59 : decode prog_13_method_73_code 59 = .ok (.iaload, 1) := by decide +kernel
theorem dd_Mo_tells_60 : decode prog_13_method_73_code 60 = .ok (.iadd, 1) := by decide +kernel
theorem dd_Mo_tells_61 : decode prog_13_method_73_code 61 = .ok (.putfield 262, 3) := by decide +kernel
theorem dd_Mo_tells_64 : decode prog_13_method_73_code 64 = .ok (.aload_n 0, 1) := by decide +kernel
theorem dd_Mo_tells_65 : decode prog_13_method_73_code 65 = .ok (.getfield 265, 3) := by decide +kernel
theorem dd_Mo_tells_68 : decode prog_13_method_73_code 68 = .ok (.aload_n 0, 1) := by decide +kernel
theorem dd_Mo_tells_69 : decode prog_13_method_73_code 69 = .ok (.getfield 262, 3) := by decide +kernel
theorem dd_Mo_tells_72 : decode prog_13_method_73_code 72 = .ok (.if_icmp .ge 144, 3) := by decide +kernel
theorem dd_Mo_tells_75 : decode prog_13_method_73_code 75 = .ok (.aload_n 0, 1) := by decide +kernel
theorem dd_Mo_tells_76 : decode prog_13_method_73_code 76 = .ok (.aload_n 0, 1) := by decide +kernel
theorem dd_Mo_tells_77 : decode prog_13_method_73_code 77 = .ok (.getfield 265, 3) := by decide +kernel
theorem dd_Mo_tells_80 : decode prog_13_method_73_code 80 = .ok (.invokevirtual 268, 3) := by decide +kernel
theorem dd_Mo_tells_83 : decode prog_13_method_73_code 83 = .ok (.istore 5, 2) := by decide +kernel
theorem dd_Mo_tells_85 : decode prog_13_method_73_code 85 = .ok (.aload_n 0, 1) := by decide +kernel
theorem dd_Mo_tells_86 : decode prog_13_method_73_code 86 = .ok (.iconst 0, 1) := by decide +kernel
theorem dd_Mo_tells_87 : decode prog_13_method_73_code 87 = .ok (.putfield 275, 3) := by decide +kernel
theorem dd_Mo_tells_90 : decode prog_13_method_73_code 90 = .ok (.aload_n 0, 1) := by decide +kernel
theorem dd_Mo_tells_91 : decode prog_13_method_73_code 91 = .ok (.dup, 1) := by decide +kernel
theorem dd_Mo_tells_92 : decode prog_13_method_73_code 92 = .ok (.getfield 265, 3) := by decide +kernel
theorem dd_Mo_tells_95 : decode prog_13_method_73_code 95 = .ok (.iconst 1, 1) := by decide +kernel
theorem dd_Mo_tells_96 : decode prog_13_method_73_code 96 = .ok (.iadd, 1) := by decide +kernel
theorem dd_Mo_tells_97 : decode prog_13_method_73_code 97 = .ok (.putfield 265, 3) := by decide +kernel
theorem dd_Mo_tells_100 : decode prog_13_method_73_code 100 = .ok (.iload 5, 2) := by decide +kernel
theorem dd_Mo_tells_102 : decode prog_13_method_73_code 102 = .ok (.iconst 2, 1) := by decide +kernel
theorem dd_Mo_tells_103 : decode prog_13_method_73_code 103 = .ok (.if_icmp .ne 7, 3) := by decide +kernel
theorem dd_Mo_tells_106 : decode prog_13_method_73_code 106 = .ok (.lconst 1, 1) := by decide +kernel
theorem dd_Mo_tells_107 : decode prog_13_method_73_code 107 = .ok (.goto 8, 3) := by decide +kernel
theorem dd_Mo_tells_110 : decode prog_13_method_73_code 110 = .ok (.aload_n 0, 1) := by decide +kernel
theorem dd_Mo_tells_111 : decode prog_13_method_73_code 111 = .ok (.iconst 1, 1) := by decide +kernel
theorem dd_Mo_tells_112 : decode prog_13_method_73_code 112 = .ok (.invokevirtual 292, 3) := by decide +kernel
theorem dd_Mo_tells_115 : decode prog_13_method_73_code 115 = .ok (.lstore 6, 2) := by decide +kernel
theorem dd_Mo_tells_117 : decode prog_13_method_73_code 117 = .ok (.aload_n 0, 1) := by decide +kernel
theorem dd_Mo_tells_118 : decode prog_13_method_73_code 118 = .ok (.getfield 275, 3) := by decide +kernel
theorem dd_Mo_tells_121 : decode prog_13_method_73_code 121 = .ok (.istore 8, 2) := by decide +kernel
theorem dd_Mo_tells_123 : decode prog_13_method_73_code 123 = .ok (.aload_n 0, 1) := by decide +kernel
theorem dd_Mo_tells_124 : decode prog_13_method_73_code 124 = .ok (.iconst 0, 1) := by decide +kernel
theorem dd_Mo_tells_125 : decode prog_13_method_73_code 125 = .ok (.putfield 275, 3) := by decide +kernel
theorem dd_Mo_tells_128 : decode prog_13_method_73_code 128 = .ok (.aload_n 0, 1) := by decide +kernel
theorem dd_Mo_tells_129 : decode prog_13_method_73_code 129 = .ok (.iconst 3, 1) := by decide +kernel
theorem dd_Mo_tells_130 : decode prog_13_method_73_code 130 = .ok (.invokevirtual 289, 3) := by decide +kernel
theorem dd_Mo_tells_133 : decode prog_13_method_73_code 133 = .ok (.ifCond .eq 11, 3) := by decide +kernel
theorem dd_Mo_tells_136 : decode prog_13_method_73_code 136 = .ok (.aload_n 0, 1) := by decide +kernel
theorem dd_Mo_tells_137 : decode prog_13_method_73_code 137 = .ok (.iconst 1, 1) := by decide +kernel
theorem dd_Mo_tells_138 : decode prog_13_method_73_code 138 = .ok (.invokevirtual 320, 3) := by decide +kernel
theorem dd_Mo_tells_141 : decode prog_13_method_73_code 141 = .ok (.ifCond .eq 7, 3) := by decide +kernel
theorem dd_Mo_tells_148 : decode prog_13_method_73_code 148 = .ok (.iconst 0, 1) := by decide +kernel
theorem dd_Mo_tells_144 : decode prog_13_method_73_code 144 = .ok (.iconst 1, 1) := by decide +kernel
theorem dd_Mo_tells_145 : decode prog_13_method_73_code 145 = .ok (.goto 4, 3) := by decide +kernel
theorem dd_Mo_tells_149 : decode prog_13_method_73_code 149 = .ok (.istore 9, 2) := by decide +kernel
theorem dd_Mo_tells_151 : decode prog_13_method_73_code 151 = .ok (.iload 5, 2) := by decide +kernel
theorem dd_Mo_tells_153 : decode prog_13_method_73_code 153 = .ok (.iload_n 1, 1) := by decide +kernel
theorem dd_Mo_tells_154 : decode prog_13_method_73_code 154 = .ok (.if_icmp .ne 49, 3) := by decide +kernel
theorem dd_Mo_tells_157 : decode prog_13_method_73_code 157 = .ok (.iload 9, 2) := by decide +kernel
theorem dd_Mo_tells_159 : decode prog_13_method_73_code 159 = .ok (.ifCond .eq 44, 3) := by decide +kernel
theorem dd_Mo_tells_162 : decode prog_13_method_73_code 162 = .ok (.aload_n 0, 1) := by decide +kernel
theorem dd_Mo_tells_163 : decode prog_13_method_73_code 163 = .ok (.getfield 275, 3) := by decide +kernel
theorem dd_Mo_tells_166 : decode prog_13_method_73_code 166 = .ok (.ifCond .ne 37, 3) := by decide +kernel
theorem dd_Mo_tells_169 : decode prog_13_method_73_code 169 = .ok (.iload 8, 2) := by decide +kernel
theorem dd_Mo_tells_171 : decode prog_13_method_73_code 171 = .ok (.ifCond .ne 32, 3) := by decide +kernel
theorem dd_Mo_tells_174 : decode prog_13_method_73_code 174 = .ok (.lload 6, 2) := by decide +kernel
theorem dd_Mo_tells_176 : decode prog_13_method_73_code 176 = .ok (.lconst 0, 1) := by decide +kernel
theorem dd_Mo_tells_177 : decode prog_13_method_73_code 177 = .ok (.lcmp, 1) := by decide +kernel
theorem dd_Mo_tells_178 : decode prog_13_method_73_code 178 = .ok (.ifCond .ge 7, 3) := by decide +kernel
theorem dd_Mo_tells_181 : decode prog_13_method_73_code 181 = .ok (.lconst 0, 1) := by decide +kernel
theorem dd_Mo_tells_182 : decode prog_13_method_73_code 182 = .ok (.goto 20, 3) := by decide +kernel
theorem dd_Mo_tells_185 : decode prog_13_method_73_code 185 = .ok (.lload 6, 2) := by decide +kernel
theorem dd_Mo_tells_187 : decode prog_13_method_73_code 187 = .ok (.ldc2_w 326, 3) := by decide +kernel
theorem dd_Mo_tells_190 : decode prog_13_method_73_code 190 = .ok (.lcmp, 1) := by decide +kernel
theorem dd_Mo_tells_191 : decode prog_13_method_73_code 191 = .ok (.ifCond .le 9, 3) := by decide +kernel
theorem dd_Mo_tells_194 : decode prog_13_method_73_code 194 = .ok (.ldc2_w 326, 3) := by decide +kernel
theorem dd_Mo_tells_197 : decode prog_13_method_73_code 197 = .ok (.goto 5, 3) := by decide +kernel
theorem dd_Mo_tells_200 : decode prog_13_method_73_code 200 = .ok (.lload 6, 2) := by decide +kernel
theorem dd_Mo_tells_202 : decode prog_13_method_73_code 202 = .ok (.lstore_n 3, 1) := by decide +kernel
theorem dd_Mo_tells_203 : decode prog_13_method_73_code 203 = .ok (.aload_n 0, 1) := by decide +kernel
theorem dd_Mo_tells_204 : decode prog_13_method_73_code 204 = .ok (.dup, 1) := by decide +kernel
theorem dd_Mo_tells_205 : decode prog_13_method_73_code 205 = .ok (.getfield 265, 3) := by decide +kernel
theorem dd_Mo_tells_208 : decode prog_13_method_73_code 208 = .ok (.iconst 1, 1) := by decide +kernel
theorem dd_Mo_tells_209 : decode prog_13_method_73_code 209 = .ok (.iadd, 1) := by decide +kernel
theorem dd_Mo_tells_210 : decode prog_13_method_73_code 210 = .ok (.putfield 265, 3) := by decide +kernel
theorem dd_Mo_tells_213 : decode prog_13_method_73_code 213 = .ok (.goto (-149), 3) := by decide +kernel
theorem dd_Mo_tells_216 : decode prog_13_method_73_code 216 = .ok (.lload_n 3, 1) := by decide +kernel
theorem dd_Mo_tells_217 : decode prog_13_method_73_code 217 = .ok (.l2i, 1) := by decide +kernel
theorem dd_Mo_tells_218 : decode prog_13_method_73_code 218 = .ok (.ireturn, 1) := by decide +kernel
def jx_Mo_tells (p0 : Option Nat) (p1 : Int32) (p2 : Int32) : sf_M (Int32) :=
  sf_bnd (sf_gR 11 2 p0) fun x1 =>
  sf_bnd (sf_aI 0 x1 (230 : Int32)) fun x2 =>
  if x2 = (-1 : Int32) then (
  sf_ret p2
  ) else (
  sf_bnd (sf_pI 11 25 p0 (0 : Int32)) fun _ =>
  sf_bnd (sf_gR 11 2 p0) fun x4 =>
  sf_bnd (sf_aI 0 x4 (230 : Int32)) fun x5 =>
  sf_bnd (sf_pI 11 22 p0 ((400 : Int32) * x5)) fun _ =>
  sf_bnd (sf_gI 11 22 p0) fun x6 =>
  sf_bnd (sf_gR 11 2 p0) fun x7 =>
  sf_bnd (sf_gR 11 2 p0) fun x8 =>
  sf_bnd (sf_aI 0 x8 (230 : Int32)) fun x9 =>
  sf_bnd (sf_aI 0 x7 ((231 : Int32) + x9)) fun x10 =>
  sf_bnd (sf_pI 11 23 p0 (x6 + x10)) fun _ =>
  sf_bnd (sf_loop (β := (Int64)) (γ := (Int64)) (fun b11 =>
  sf_bnd (sf_gI 11 22 p0) fun x12 =>
  sf_bnd (sf_gI 11 23 p0) fun x13 =>
  if x13 ≤ x12 then (
  sf_ret (.inr b11)
  ) else (
  sf_bnd (sf_gI 11 22 p0) fun x15 =>
  sf_bnd (sf_rc 11 p0 (jx_Mo_codeAt p0 x15)) fun x16 =>
  sf_bnd (sf_pI 11 24 p0 (0 : Int32)) fun _ =>
  sf_bnd (sf_gI 11 22 p0) fun x17 =>
  sf_bnd (sf_pI 11 22 p0 (x17 + (1 : Int32))) fun _ =>
  sf_bnd (α := (Int64)) (
  if x16 = (2 : Int32) then (
  sf_ret (1 : Int64)
  ) else (
  sf_bnd (sf_rc 11 p0 (jx_G4 sf_deep 0 p0 (1 : Int32))) fun x19 =>
  sf_ret x19
  )
  ) (fun v20 =>
  sf_bnd (sf_gI 11 24 p0) fun x21 =>
  sf_bnd (sf_pI 11 24 p0 (0 : Int32)) fun _ =>
  sf_bnd (sf_rc 11 p0 (jx_Mo_passes0 p0 (3 : Int32))) fun x22 =>
  sf_bnd (α := (Int32)) (
  sf_or (α := (Int32)) (β := (Unit)) (
  if x22 = 0 then (
  sf_ret (.inr ())
  ) else (
  sf_bnd (sf_rc 11 p0 (jx_G5 sf_deep 0 p0 (1 : Int32))) fun x24 =>
  if x24 = 0 then (
  sf_ret (.inl (0 : Int32))
  ) else (
  sf_ret (.inr ())
  )
  )
  ) (fun v26 =>
  sf_ret (1 : Int32)
  )
  ) (fun v27 =>
  sf_bnd (α := (Int64)) (
  if x16 = p1 then (
  if v27 = 0 then (
  sf_ret b11
  ) else (
  sf_bnd (sf_gI 11 24 p0) fun x30 =>
  if x30 = 0 then (
  if x21 = 0 then (
  if 0 ≤ (lg_cmp v20 (0 : Int64)) then (
  if (lg_cmp v20 (9999 : Int64)) ≤ 0 then (
  sf_ret v20
  ) else (
  sf_ret (9999 : Int64)
  )
  ) else (
  sf_ret (0 : Int64)
  )
  ) else (
  sf_ret b11
  )
  ) else (
  sf_ret b11
  )
  )
  ) else (
  sf_ret b11
  )
  ) (fun v35 =>
  sf_bnd (sf_gI 11 22 p0) fun x36 =>
  sf_bnd (sf_pI 11 22 p0 (x36 + (1 : Int32))) fun _ =>
  sf_ret (.inl v35)
  )
  )
  )
  )
  ) sf_fuel p2.toInt64) (fun e37 =>
  sf_ret e37.toInt32
  )
  )
set_option maxRecDepth 20000 in
set_option maxHeartbeats 4000000 in
theorem ok_Mo_tells (p0 : Option Nat) (p1 : Int32) (p2 : Int32) : sf_Ok ({ cls := "SplitFaresModel", name := "tells", desc := "(II)I" } : Jvm.MethodName) prog_13_method_73_code 10 (some .int) 205 [sf_rv p0, .int p1, .int p2] (jx_Mo_tells p0 p1 p2) (fun r => some (.int r)) := by
  refine sf_Ok.of (env := [some (sf_rv p0), some (.int p1), some (.int p2), none, none, none, none, none, none, none]) (plainFor_of_name (by decide)) [false, false, false] (fun G => ⟨pk_r, pk_i, pk_i, trivial⟩) (Nat.le_of_ble_eq_true rfl) rfl (fun X => ?_)
  unfold jx_Mo_tells
  refine fp_aload_n (i := 0) (r := p0) dd_Mo_tells_0 rfl rfl (fr_pc (pc' := 1) rfl ?_)
  refine fr_gR cl_11 2 (by decide) rfl sw_1074 dd_Mo_tells_1 (fun x1 => fr_pc (pc' := 4) rfl ?_)
  refine fp_sipush (v := (230 : Int32)) dd_Mo_tells_4 (by decide) (fr_pc (pc' := 7) rfl ?_)
  refine fr_aI0 dd_Mo_tells_7 (fun x2 => fr_pc (pc' := 8) rfl ?_)
  refine fp_iconst (v := (-1 : Int32)) dd_Mo_tells_8 (by decide) (fr_pc (pc' := 9) rfl ?_)
  refine fr_icmp_ne (tgt := 14) dd_Mo_tells_9 rfl (fun _ => ?_) (fun _ => ?_)
  · refine fr_pc (pc' := 12) rfl ?_
    refine fp_iload_n (i := 2) (x := p2) dd_Mo_tells_12 rfl rfl (fr_pc (pc' := 13) rfl ?_)
    exact fr_iret (v := p2) rfl rfl dd_Mo_tells_13
  · refine fp_aload_n (i := 0) (r := p0) dd_Mo_tells_14 rfl rfl (fr_pc (pc' := 15) rfl ?_)
    refine fp_iconst (v := (0 : Int32)) dd_Mo_tells_15 (by decide) (fr_pc (pc' := 16) rfl ?_)
    refine fr_pI cl_11 25 (by decide) rfl sw_1097 rfl ⟨rfl, rfl⟩ dd_Mo_tells_16 (fr_pc (pc' := 19) rfl ?_)
    refine fp_iload_n (i := 2) (x := p2) dd_Mo_tells_19 rfl rfl (fr_pc (pc' := 20) rfl ?_)
    refine fp_i2l dd_Mo_tells_20 (fr_pc (pc' := 21) rfl ?_)
    refine fp_lstore_n (i := 3) dd_Mo_tells_21 rfl (Nat.le_of_ble_eq_true rfl) (fun _ => c1_i rfl) (fr_to (pc' := 22) (env' := [some (sf_rv p0), some (.int p1), some (.int p2), some (.long p2.toInt64), none, none, none, none, none, none]) (stk' := []) rfl rfl rfl ?_)
    refine fp_aload_n (i := 0) (r := p0) dd_Mo_tells_22 rfl rfl (fr_pc (pc' := 23) rfl ?_)
    refine fp_sipush (v := (400 : Int32)) dd_Mo_tells_23 (by decide) (fr_pc (pc' := 26) rfl ?_)
    refine fp_aload_n (i := 0) (r := p0) dd_Mo_tells_26 rfl rfl (fr_pc (pc' := 27) rfl ?_)
    refine fr_gR cl_11 2 (by decide) rfl sw_1074 dd_Mo_tells_27 (fun x4 => fr_pc (pc' := 30) rfl ?_)
    refine fp_sipush (v := (230 : Int32)) dd_Mo_tells_30 (by decide) (fr_pc (pc' := 33) rfl ?_)
    refine fr_aI0 dd_Mo_tells_33 (fun x5 => fr_pc (pc' := 34) rfl ?_)
    refine fp_imul dd_Mo_tells_34 (fr_pc (pc' := 35) rfl ?_)
    refine fr_pI cl_11 22 (by decide) rfl sw_1094 rfl ⟨rfl, rfl⟩ dd_Mo_tells_35 (fr_pc (pc' := 38) rfl ?_)
    refine fp_aload_n (i := 0) (r := p0) dd_Mo_tells_38 rfl rfl (fr_pc (pc' := 39) rfl ?_)
    refine fp_aload_n (i := 0) (r := p0) dd_Mo_tells_39 rfl rfl (fr_pc (pc' := 40) rfl ?_)
    refine fr_gI cl_11 22 (by decide) rfl sw_1094 dd_Mo_tells_40 (fun x6 => fr_pc (pc' := 43) rfl ?_)
    refine fp_aload_n (i := 0) (r := p0) dd_Mo_tells_43 rfl rfl (fr_pc (pc' := 44) rfl ?_)
    refine fr_gR cl_11 2 (by decide) rfl sw_1074 dd_Mo_tells_44 (fun x7 => fr_pc (pc' := 47) rfl ?_)
    refine fp_sipush (v := (231 : Int32)) dd_Mo_tells_47 (by decide) (fr_pc (pc' := 50) rfl ?_)
    refine fp_aload_n (i := 0) (r := p0) dd_Mo_tells_50 rfl rfl (fr_pc (pc' := 51) rfl ?_)
    refine fr_gR cl_11 2 (by decide) rfl sw_1074 dd_Mo_tells_51 (fun x8 => fr_pc (pc' := 54) rfl ?_)
    refine fp_sipush (v := (230 : Int32)) dd_Mo_tells_54 (by decide) (fr_pc (pc' := 57) rfl ?_)
    refine fr_aI0 dd_Mo_tells_57 (fun x9 => fr_pc (pc' := 58) rfl ?_)
    refine fp_iadd dd_Mo_tells_58 (fr_pc (pc' := 59) rfl ?_)
    refine fr_aI0 dd_Mo_tells_59 (fun x10 => fr_pc (pc' := 60) rfl ?_)
    refine fp_iadd dd_Mo_tells_60 (fr_pc (pc' := 61) rfl ?_)
    refine fr_pI cl_11 23 (by decide) rfl sw_1095 rfl ⟨rfl, rfl⟩ dd_Mo_tells_61 (fr_pc (pc' := 64) rfl ?_)
    refine fr_to (pc' := 64) (env' := [some (sf_rv p0), some (.int p1), some (.int p2), some (.long p2.toInt64), none, none, none, none, none, none]) (stk' := []) rfl rfl rfl ?_
    refine fr_bnd (l1 := (fun (e37 : (Int64)) => sf_p 216 [some (sf_rv p0), some (.int p1), some (.int p2), some (.long e37), none, none, none, none, none, none] [])) (fr_loop (Lb := (fun (b11 : (Int64)) => sf_p 64 [some (sf_rv p0), some (.int p1), some (.int p2), some (.long b11), none, none, none, none, none, none] [])) (fun b11 => ?_) _ _) (fun e37 => ?_)
    · refine fp_aload_n (i := 0) (r := p0) dd_Mo_tells_64 rfl rfl (fr_pc (pc' := 65) rfl ?_)
      refine fr_gI cl_11 22 (by decide) rfl sw_1094 dd_Mo_tells_65 (fun x12 => fr_pc (pc' := 68) rfl ?_)
      refine fp_aload_n (i := 0) (r := p0) dd_Mo_tells_68 rfl rfl (fr_pc (pc' := 69) rfl ?_)
      refine fr_gI cl_11 23 (by decide) rfl sw_1095 dd_Mo_tells_69 (fun x13 => fr_pc (pc' := 72) rfl ?_)
      refine fr_icmp_ge (tgt := 216) dd_Mo_tells_72 rfl (fun _ => ?_) (fun _ => ?_)
      · exact fr_ret rfl
      · refine fr_pc (pc' := 75) rfl ?_
        refine fp_aload_n (i := 0) (r := p0) dd_Mo_tells_75 rfl rfl (fr_pc (pc' := 76) rfl ?_)
        refine fp_aload_n (i := 0) (r := p0) dd_Mo_tells_76 rfl rfl (fr_pc (pc' := 77) rfl ?_)
        refine fr_gI cl_11 22 (by decide) rfl sw_1094 dd_Mo_tells_77 (fun x15 => fr_pc (pc' := 80) rfl ?_)
        refine fr_callV (stk := []) (As := [.int x15]) cl_11 (ok_Mo_codeAt p0 x15) mt_Mo_codeAt rfl rfl sw_1445 sw_1447 sp_56 (by decide) (Nat.le_of_ble_eq_true rfl) dd_Mo_tells_80 (fun x16 => fr_to (pc' := 83) (env' := [some (sf_rv p0), some (.int p1), some (.int p2), some (.long b11), none, none, none, none, none, none]) (stk' := [.int x16]) rfl rfl rfl ?_)
        refine fp_istore (i := 5) dd_Mo_tells_83 (Nat.le_of_ble_eq_true rfl) (fun _ => c1_n rfl) (fr_to (pc' := 85) (env' := [some (sf_rv p0), some (.int p1), some (.int p2), some (.long b11), none, some (.int x16), none, none, none, none]) (stk' := []) rfl rfl rfl ?_)
        refine fp_aload_n (i := 0) (r := p0) dd_Mo_tells_85 rfl rfl (fr_pc (pc' := 86) rfl ?_)
        refine fp_iconst (v := (0 : Int32)) dd_Mo_tells_86 (by decide) (fr_pc (pc' := 87) rfl ?_)
        refine fr_pI cl_11 24 (by decide) rfl sw_1096 rfl ⟨rfl, rfl⟩ dd_Mo_tells_87 (fr_pc (pc' := 90) rfl ?_)
        refine fp_aload_n (i := 0) (r := p0) dd_Mo_tells_90 rfl rfl (fr_pc (pc' := 91) rfl ?_)
        refine fp_dup_r dd_Mo_tells_91 (fr_pc (pc' := 92) rfl ?_)
        refine fr_gI cl_11 22 (by decide) rfl sw_1094 dd_Mo_tells_92 (fun x17 => fr_pc (pc' := 95) rfl ?_)
        refine fp_iconst (v := (1 : Int32)) dd_Mo_tells_95 (by decide) (fr_pc (pc' := 96) rfl ?_)
        refine fp_iadd dd_Mo_tells_96 (fr_pc (pc' := 97) rfl ?_)
        refine fr_pI cl_11 22 (by decide) rfl sw_1094 rfl ⟨rfl, rfl⟩ dd_Mo_tells_97 (fr_pc (pc' := 100) rfl ?_)
        refine fp_iload (i := 5) (x := x16) dd_Mo_tells_100 rfl (fr_pc (pc' := 102) rfl ?_)
        refine fp_iconst (v := (2 : Int32)) dd_Mo_tells_102 (by decide) (fr_pc (pc' := 103) rfl ?_)
        refine fr_bnd (l1 := (fun (v20 : (Int64)) => sf_p 115 [some (sf_rv p0), some (.int p1), some (.int p2), some (.long b11), none, some (.int x16), none, none, none, none] [.long v20])) ?_ (fun v20 => ?_)
        · refine fr_icmp_ne (tgt := 110) dd_Mo_tells_103 rfl (fun _ => ?_) (fun _ => ?_)
          · refine fr_pc (pc' := 106) rfl ?_
            refine fp_lconst (v := (1 : Int64)) dd_Mo_tells_106 (by decide) (fr_pc (pc' := 107) rfl ?_)
            refine fp_goto (tgt := 115) dd_Mo_tells_107 rfl ?_
            exact fr_ret rfl
          · refine fp_aload_n (i := 0) (r := p0) dd_Mo_tells_110 rfl rfl (fr_pc (pc' := 111) rfl ?_)
            refine fp_iconst (v := (1 : Int32)) dd_Mo_tells_111 (by decide) (fr_pc (pc' := 112) rfl ?_)
            refine fr_callV (stk := []) (As := [.int (1 : Int32)]) cl_11 (ok_Mo_sumOf sf_deep p0 (1 : Int32)) mt_Mo_sumOf rfl rfl sw_1449 sw_1451 sp_57 (by decide) (Nat.le_of_ble_eq_true rfl) dd_Mo_tells_112 (fun x19 => fr_to (pc' := 115) (env' := [some (sf_rv p0), some (.int p1), some (.int p2), some (.long b11), none, some (.int x16), none, none, none, none]) (stk' := [.long x19]) rfl rfl rfl ?_)
            exact fr_ret rfl
        · refine fp_lstore (i := 6) dd_Mo_tells_115 (Nat.le_of_ble_eq_true rfl) (fun _ => c1_i rfl) (fr_to (pc' := 117) (env' := [some (sf_rv p0), some (.int p1), some (.int p2), some (.long b11), none, some (.int x16), some (.long v20), none, none, none]) (stk' := []) rfl rfl rfl ?_)
          refine fp_aload_n (i := 0) (r := p0) dd_Mo_tells_117 rfl rfl (fr_pc (pc' := 118) rfl ?_)
          refine fr_gI cl_11 24 (by decide) rfl sw_1096 dd_Mo_tells_118 (fun x21 => fr_pc (pc' := 121) rfl ?_)
          refine fp_istore (i := 8) dd_Mo_tells_121 (Nat.le_of_ble_eq_true rfl) (fun _ => c1_n rfl) (fr_to (pc' := 123) (env' := [some (sf_rv p0), some (.int p1), some (.int p2), some (.long b11), none, some (.int x16), some (.long v20), none, some (.int x21), none]) (stk' := []) rfl rfl rfl ?_)
          refine fp_aload_n (i := 0) (r := p0) dd_Mo_tells_123 rfl rfl (fr_pc (pc' := 124) rfl ?_)
          refine fp_iconst (v := (0 : Int32)) dd_Mo_tells_124 (by decide) (fr_pc (pc' := 125) rfl ?_)
          refine fr_pI cl_11 24 (by decide) rfl sw_1096 rfl ⟨rfl, rfl⟩ dd_Mo_tells_125 (fr_pc (pc' := 128) rfl ?_)
          refine fp_aload_n (i := 0) (r := p0) dd_Mo_tells_128 rfl rfl (fr_pc (pc' := 129) rfl ?_)
          refine fp_iconst (v := (3 : Int32)) dd_Mo_tells_129 (by decide) (fr_pc (pc' := 130) rfl ?_)
          refine fr_callV (stk := []) (As := [.int (3 : Int32)]) cl_11 (ok_Mo_passes0 p0 (3 : Int32)) mt_Mo_passes0 rfl rfl sw_1461 sw_1463 sp_60 (by decide) (Nat.le_of_ble_eq_true rfl) dd_Mo_tells_130 (fun x22 => fr_to (pc' := 133) (env' := [some (sf_rv p0), some (.int p1), some (.int p2), some (.long b11), none, some (.int x16), some (.long v20), none, some (.int x21), none]) (stk' := [.int x22]) rfl rfl rfl ?_)
          refine fr_bnd (l1 := (fun (v27 : (Int32)) => sf_p 149 [some (sf_rv p0), some (.int p1), some (.int p2), some (.long b11), none, some (.int x16), some (.long v20), none, some (.int x21), none] [.int v27])) ?_ (fun v27 => ?_)
          · refine fr_or (l1 := (fun (v26 : (Unit)) => sf_p 144 [some (sf_rv p0), some (.int p1), some (.int p2), some (.long b11), none, some (.int x16), some (.long v20), none, some (.int x21), none] [])) ?_ (fun v26 => ?_)
            · refine fr_if_eq (tgt := 144) dd_Mo_tells_133 rfl (fun _ => ?_) (fun _ => ?_)
              · exact fr_ret rfl
              · refine fr_pc (pc' := 136) rfl ?_
                refine fp_aload_n (i := 0) (r := p0) dd_Mo_tells_136 rfl rfl (fr_pc (pc' := 137) rfl ?_)
                refine fp_iconst (v := (1 : Int32)) dd_Mo_tells_137 (by decide) (fr_pc (pc' := 138) rfl ?_)
                refine fr_callV (stk := []) (As := [.int (1 : Int32)]) cl_11 (ok_Mo_testOf sf_deep p0 (1 : Int32)) mt_Mo_testOf rfl rfl sw_1483 sw_1485 sp_65 (by decide) (Nat.le_of_ble_eq_true rfl) dd_Mo_tells_138 (fun x24 => fr_to (pc' := 141) (env' := [some (sf_rv p0), some (.int p1), some (.int p2), some (.long b11), none, some (.int x16), some (.long v20), none, some (.int x21), none]) (stk' := [.int x24]) rfl rfl rfl ?_)
                refine fr_if_eq (tgt := 148) dd_Mo_tells_141 rfl (fun _ => ?_) (fun _ => ?_)
                · refine fp_iconst (v := (0 : Int32)) dd_Mo_tells_148 (by decide) (fr_pc (pc' := 149) rfl ?_)
                  exact fr_ret rfl
                · refine fr_pc (pc' := 144) rfl ?_
                  exact fr_ret rfl
            · refine fp_iconst (v := (1 : Int32)) dd_Mo_tells_144 (by decide) (fr_pc (pc' := 145) rfl ?_)
              refine fp_goto (tgt := 149) dd_Mo_tells_145 rfl ?_
              exact fr_ret rfl
          · refine fp_istore (i := 9) dd_Mo_tells_149 (Nat.le_of_ble_eq_true rfl) (fun _ => c1_i rfl) (fr_to (pc' := 151) (env' := [some (sf_rv p0), some (.int p1), some (.int p2), some (.long b11), none, some (.int x16), some (.long v20), none, some (.int x21), some (.int v27)]) (stk' := []) rfl rfl rfl ?_)
            refine fp_iload (i := 5) (x := x16) dd_Mo_tells_151 rfl (fr_pc (pc' := 153) rfl ?_)
            refine fp_iload_n (i := 1) (x := p1) dd_Mo_tells_153 rfl rfl (fr_pc (pc' := 154) rfl ?_)
            refine fr_bnd (l1 := (fun (v35 : (Int64)) => sf_p 203 [some (sf_rv p0), some (.int p1), some (.int p2), some (.long v35), none, some (.int x16), some (.long v20), none, some (.int x21), some (.int v27)] [])) ?_ (fun v35 => ?_)
            · refine fr_icmp_ne (tgt := 203) dd_Mo_tells_154 rfl (fun _ => ?_) (fun _ => ?_)
              · refine fr_pc (pc' := 157) rfl ?_
                refine fp_iload (i := 9) (x := v27) dd_Mo_tells_157 rfl (fr_pc (pc' := 159) rfl ?_)
                refine fr_if_eq (tgt := 203) dd_Mo_tells_159 rfl (fun _ => ?_) (fun _ => ?_)
                · exact fr_ret rfl
                · refine fr_pc (pc' := 162) rfl ?_
                  refine fp_aload_n (i := 0) (r := p0) dd_Mo_tells_162 rfl rfl (fr_pc (pc' := 163) rfl ?_)
                  refine fr_gI cl_11 24 (by decide) rfl sw_1096 dd_Mo_tells_163 (fun x30 => fr_pc (pc' := 166) rfl ?_)
                  refine fr_if_ne (tgt := 203) dd_Mo_tells_166 rfl (fun _ => ?_) (fun _ => ?_)
                  · refine fr_pc (pc' := 169) rfl ?_
                    refine fp_iload (i := 8) (x := x21) dd_Mo_tells_169 rfl (fr_pc (pc' := 171) rfl ?_)
                    refine fr_if_ne (tgt := 203) dd_Mo_tells_171 rfl (fun _ => ?_) (fun _ => ?_)
                    · refine fr_pc (pc' := 174) rfl ?_
                      refine fp_lload (i := 6) (x := v20) dd_Mo_tells_174 rfl (fr_pc (pc' := 176) rfl ?_)
                      refine fp_lconst (v := (0 : Int64)) dd_Mo_tells_176 (by decide) (fr_pc (pc' := 177) rfl ?_)
                      refine fp_lcmp dd_Mo_tells_177 (fr_pc (pc' := 178) rfl ?_)
                      refine fr_if_ge (tgt := 185) dd_Mo_tells_178 rfl (fun _ => ?_) (fun _ => ?_)
                      · refine fp_lload (i := 6) (x := v20) dd_Mo_tells_185 rfl (fr_pc (pc' := 187) rfl ?_)
                        refine fp_ldc2 (v := (9999 : Int64)) dd_Mo_tells_187 sw_1499 (fr_pc (pc' := 190) rfl ?_)
                        refine fp_lcmp dd_Mo_tells_190 (fr_pc (pc' := 191) rfl ?_)
                        refine fr_if_le (tgt := 200) dd_Mo_tells_191 rfl (fun _ => ?_) (fun _ => ?_)
                        · refine fp_lload (i := 6) (x := v20) dd_Mo_tells_200 rfl (fr_pc (pc' := 202) rfl ?_)
                          refine fp_lstore_n (i := 3) dd_Mo_tells_202 rfl (Nat.le_of_ble_eq_true rfl) (fun _ => c1_i rfl) (fr_to (pc' := 203) (env' := [some (sf_rv p0), some (.int p1), some (.int p2), some (.long v20), none, some (.int x16), some (.long v20), none, some (.int x21), some (.int v27)]) (stk' := []) rfl rfl rfl ?_)
                          exact fr_ret rfl
                        · refine fr_pc (pc' := 194) rfl ?_
                          refine fp_ldc2 (v := (9999 : Int64)) dd_Mo_tells_194 sw_1499 (fr_pc (pc' := 197) rfl ?_)
                          refine fp_goto (tgt := 202) dd_Mo_tells_197 rfl ?_
                          refine fp_lstore_n (i := 3) dd_Mo_tells_202 rfl (Nat.le_of_ble_eq_true rfl) (fun _ => c1_i rfl) (fr_to (pc' := 203) (env' := [some (sf_rv p0), some (.int p1), some (.int p2), some (.long (9999 : Int64)), none, some (.int x16), some (.long v20), none, some (.int x21), some (.int v27)]) (stk' := []) rfl rfl rfl ?_)
                          exact fr_ret rfl
                      · refine fr_pc (pc' := 181) rfl ?_
                        refine fp_lconst (v := (0 : Int64)) dd_Mo_tells_181 (by decide) (fr_pc (pc' := 182) rfl ?_)
                        refine fp_goto (tgt := 202) dd_Mo_tells_182 rfl ?_
                        refine fp_lstore_n (i := 3) dd_Mo_tells_202 rfl (Nat.le_of_ble_eq_true rfl) (fun _ => c1_i rfl) (fr_to (pc' := 203) (env' := [some (sf_rv p0), some (.int p1), some (.int p2), some (.long (0 : Int64)), none, some (.int x16), some (.long v20), none, some (.int x21), some (.int v27)]) (stk' := []) rfl rfl rfl ?_)
                        exact fr_ret rfl
                    · exact fr_ret rfl
                  · exact fr_ret rfl
              · exact fr_ret rfl
            · refine fp_aload_n (i := 0) (r := p0) dd_Mo_tells_203 rfl rfl (fr_pc (pc' := 204) rfl ?_)
              refine fp_dup_r dd_Mo_tells_204 (fr_pc (pc' := 205) rfl ?_)
              refine fr_gI cl_11 22 (by decide) rfl sw_1094 dd_Mo_tells_205 (fun x36 => fr_pc (pc' := 208) rfl ?_)
              refine fp_iconst (v := (1 : Int32)) dd_Mo_tells_208 (by decide) (fr_pc (pc' := 209) rfl ?_)
              refine fp_iadd dd_Mo_tells_209 (fr_pc (pc' := 210) rfl ?_)
              refine fr_pI cl_11 22 (by decide) rfl sw_1094 rfl ⟨rfl, rfl⟩ dd_Mo_tells_210 (fr_pc (pc' := 213) rfl ?_)
              refine fp_goto (tgt := 64) dd_Mo_tells_213 rfl ?_
              refine fr_wk [true, true, true, true, false, false, false, false, false, false] ?_
              exact fr_ret rfl
    · refine fp_lload_n (i := 3) (x := e37) dd_Mo_tells_216 rfl rfl (fr_pc (pc' := 217) rfl ?_)
      refine fp_l2i dd_Mo_tells_217 (fr_pc (pc' := 218) rfl ?_)
      exact fr_iret (v := e37.toInt32) rfl rfl dd_Mo_tells_218
theorem mt_Mo_costOf : sf_Mt ({ cls := "SplitFaresModel", name := "costOf", desc := "(III)I" } : Jvm.MethodName) prog_13_method_74_code 4 (some .int) 3 := ⟨sw_1433, sw_12, ⟨by decide, by decide, by decide +kernel⟩, by decide⟩
theorem dd_Mo_costOf_0 : decode prog_13_method_74_code 0 = .ok (.aload_n 0, 1) := by decide +kernel
theorem dd_Mo_costOf_1 : decode prog_13_method_74_code 1 = .ok (.iload_n 1, 1) := by decide +kernel
theorem dd_Mo_costOf_2 : decode prog_13_method_74_code 2 = .ok (.iload_n 2, 1) := by decide +kernel
theorem dd_Mo_costOf_3 : decode prog_13_method_74_code 3 = .ok (.iload_n 3, 1) := by decide +kernel
theorem dd_Mo_costOf_4 : decode prog_13_method_74_code 4 = .ok (.iconst (-1), 1) := by decide +kernel
theorem dd_Mo_costOf_5 : decode prog_13_method_74_code 5 = .ok (.invokevirtual 328, 3) := by decide +kernel
theorem dd_Mo_costOf_8 : decode prog_13_method_74_code 8 = .ok (.aload_n 0, 1) := by decide +kernel
theorem dd_Mo_costOf_9 : decode prog_13_method_74_code 9 = .ok (.iconst 1, 1) := by decide +kernel
theorem dd_Mo_costOf_10 : decode prog_13_method_74_code 10 = .ok (.iload_n 1, 1) := by decide +kernel
theorem dd_Mo_costOf_11 : decode prog_13_method_74_code 11 = .ok (.ifCond .ne 8, 3) := by decide +kernel
theorem dd_Mo_costOf_14 : decode prog_13_method_74_code 14 = .ok (.bipush 10, 2) := by decide +kernel
theorem dd_Mo_costOf_16 : decode prog_13_method_74_code 16 = .ok (.goto 5, 3) := by decide +kernel
theorem dd_Mo_costOf_19 : decode prog_13_method_74_code 19 = .ok (.bipush 15, 2) := by decide +kernel
theorem dd_Mo_costOf_21 : decode prog_13_method_74_code 21 = .ok (.iload_n 2, 1) := by decide +kernel
theorem dd_Mo_costOf_22 : decode prog_13_method_74_code 22 = .ok (.iload_n 3, 1) := by decide +kernel
theorem dd_Mo_costOf_23 : decode prog_13_method_74_code 23 = .ok (.invokestatic 323, 3) := by decide +kernel
theorem dd_Mo_costOf_26 : decode prog_13_method_74_code 26 = .ok (.imul, 1) := by decide +kernel
theorem dd_Mo_costOf_27 : decode prog_13_method_74_code 27 = .ok (.invokevirtual 332, 3) := by decide +kernel
theorem dd_Mo_costOf_30 : decode prog_13_method_74_code 30 = .ok (.ireturn, 1) := by decide +kernel
def jx_Mo_costOf (p0 : Option Nat) (p1 : Int32) (p2 : Int32) (p3 : Int32) : sf_M (Int32) :=
  sf_bnd (sf_rc 11 p0 (jx_Mo_setsAsked p0 p1 p2 p3 (-1 : Int32))) fun _ =>
  sf_bnd (α := (Int32)) (
  if p1 = 0 then (
  sf_ret (10 : Int32)
  ) else (
  sf_ret (15 : Int32)
  )
  ) (fun v3 =>
  sf_bnd (jx_Mo_far p2 p3) fun x4 =>
  sf_bnd (sf_rc 11 p0 (jx_Mo_tells p0 (1 : Int32) (v3 * x4))) fun x5 =>
  sf_ret x5
  )
set_option maxRecDepth 20000 in
set_option maxHeartbeats 4000000 in
theorem ok_Mo_costOf (p0 : Option Nat) (p1 : Int32) (p2 : Int32) (p3 : Int32) : sf_Ok ({ cls := "SplitFaresModel", name := "costOf", desc := "(III)I" } : Jvm.MethodName) prog_13_method_74_code 4 (some .int) 206 [sf_rv p0, .int p1, .int p2, .int p3] (jx_Mo_costOf p0 p1 p2 p3) (fun r => some (.int r)) := by
  refine sf_Ok.of (env := [some (sf_rv p0), some (.int p1), some (.int p2), some (.int p3)]) (plainFor_of_name (by decide)) [false, false, false, false] (fun G => ⟨pk_r, pk_i, pk_i, pk_i, trivial⟩) (Nat.le_of_ble_eq_true rfl) rfl (fun X => ?_)
  unfold jx_Mo_costOf
  refine fp_aload_n (i := 0) (r := p0) dd_Mo_costOf_0 rfl rfl (fr_pc (pc' := 1) rfl ?_)
  refine fp_iload_n (i := 1) (x := p1) dd_Mo_costOf_1 rfl rfl (fr_pc (pc' := 2) rfl ?_)
  refine fp_iload_n (i := 2) (x := p2) dd_Mo_costOf_2 rfl rfl (fr_pc (pc' := 3) rfl ?_)
  refine fp_iload_n (i := 3) (x := p3) dd_Mo_costOf_3 rfl rfl (fr_pc (pc' := 4) rfl ?_)
  refine fp_iconst (v := (-1 : Int32)) dd_Mo_costOf_4 (by decide) (fr_pc (pc' := 5) rfl ?_)
  refine fr_callV (stk := []) (As := [.int p1, .int p2, .int p3, .int (-1 : Int32)]) cl_11 (ok_Mo_setsAsked p0 p1 p2 p3 (-1 : Int32)) mt_Mo_setsAsked rfl rfl sw_1434 sw_1436 sp_54 (by decide) (Nat.le_of_ble_eq_true rfl) dd_Mo_costOf_5 (fun u1 => fr_to (pc' := 8) (env' := [some (sf_rv p0), some (.int p1), some (.int p2), some (.int p3)]) (stk' := []) rfl rfl rfl ?_)
  refine fp_aload_n (i := 0) (r := p0) dd_Mo_costOf_8 rfl rfl (fr_pc (pc' := 9) rfl ?_)
  refine fp_iconst (v := (1 : Int32)) dd_Mo_costOf_9 (by decide) (fr_pc (pc' := 10) rfl ?_)
  refine fp_iload_n (i := 1) (x := p1) dd_Mo_costOf_10 rfl rfl (fr_pc (pc' := 11) rfl ?_)
  refine fr_bnd (l1 := (fun (v3 : (Int32)) => sf_p 21 [some (sf_rv p0), some (.int p1), some (.int p2), some (.int p3)] [.int v3, .int (1 : Int32), sf_rv p0])) ?_ (fun v3 => ?_)
  · refine fr_if_ne (tgt := 19) dd_Mo_costOf_11 rfl (fun _ => ?_) (fun _ => ?_)
    · refine fr_pc (pc' := 14) rfl ?_
      refine fp_bipush (v := (10 : Int32)) dd_Mo_costOf_14 (by decide) (fr_pc (pc' := 16) rfl ?_)
      refine fp_goto (tgt := 21) dd_Mo_costOf_16 rfl ?_
      exact fr_ret rfl
    · refine fp_bipush (v := (15 : Int32)) dd_Mo_costOf_19 (by decide) (fr_pc (pc' := 21) rfl ?_)
      exact fr_ret rfl
  · refine fp_iload_n (i := 2) (x := p2) dd_Mo_costOf_21 rfl rfl (fr_pc (pc' := 22) rfl ?_)
    refine fp_iload_n (i := 3) (x := p3) dd_Mo_costOf_22 rfl rfl (fr_pc (pc' := 23) rfl ?_)
    refine fr_callS (stk := [.int v3, .int (1 : Int32), sf_rv p0]) (ok_Mo_far p2 p3) mt_Mo_far rfl rfl sw_1438 sw_1439 (by decide) (Nat.le_of_ble_eq_true rfl) dd_Mo_costOf_23 (fun x4 => fr_to (pc' := 26) (env' := [some (sf_rv p0), some (.int p1), some (.int p2), some (.int p3)]) (stk' := [.int x4, .int v3, .int (1 : Int32), sf_rv p0]) rfl rfl rfl ?_)
    refine fp_imul dd_Mo_costOf_26 (fr_pc (pc' := 27) rfl ?_)
    refine fr_callV (stk := []) (As := [.int (1 : Int32), .int (v3 * x4)]) cl_11 (ok_Mo_tells p0 (1 : Int32) (v3 * x4)) mt_Mo_tells rfl rfl sw_1441 sw_1443 sp_55 (by decide) (Nat.le_of_ble_eq_true rfl) dd_Mo_costOf_27 (fun x5 => fr_to (pc' := 30) (env' := [some (sf_rv p0), some (.int p1), some (.int p2), some (.int p3)]) (stk' := [.int x5]) rfl rfl rfl ?_)
    exact fr_iret (v := x5) rfl rfl dd_Mo_costOf_30
