/-! Reader: its methods as plain functions, and that the bytecode runs them (printed by program). -/
theorem mt_Reader_init : sf_Mt ({ cls := "SplitFares$Reader", name := "<init>", desc := "()V" } : Jvm.MethodName) prog_8_method_1_code 1 none 0 := ⟨sw_239, sw_9, ⟨by decide, by decide, by decide +kernel⟩, by decide⟩
theorem dd_Reader_init_0 : decode prog_8_method_1_code 0 = .ok (.aload_n 0, 1) := by decide +kernel
theorem dd_Reader_init_1 : decode prog_8_method_1_code 1 = .ok (.invokespecial 3, 3) := by decide +kernel
theorem dd_Reader_init_4 : decode prog_8_method_1_code 4 = .ok (.aload_n 0, 1) := by decide +kernel
theorem dd_Reader_init_5 : decode prog_8_method_1_code 5 = .ok (.new 9, 3) := by decide +kernel
theorem dd_Reader_init_8 : decode prog_8_method_1_code 8 = .ok (.dup, 1) := by decide +kernel
theorem dd_Reader_init_9 : decode prog_8_method_1_code 9 = .ok (.invokespecial 11, 3) := by decide +kernel
theorem dd_Reader_init_12 : decode prog_8_method_1_code 12 = .ok (.putfield 12, 3) := by decide +kernel
theorem dd_Reader_init_15 : decode prog_8_method_1_code 15 = .ok (.aload_n 0, 1) := by decide +kernel
theorem dd_Reader_init_16 : decode prog_8_method_1_code 16 = .ok (.new 18, 3) := by decide +kernel
theorem dd_Reader_init_19 : decode prog_8_method_1_code 19 = .ok (.dup, 1) := by decide +kernel
theorem dd_Reader_init_20 : decode prog_8_method_1_code 20 = .ok (.invokespecial 20, 3) := by decide +kernel
theorem dd_Reader_init_23 : decode prog_8_method_1_code 23 = .ok (.putfield 21, 3) := by decide +kernel
theorem dd_Reader_init_26 : decode prog_8_method_1_code 26 = .ok (.aload_n 0, 1) := by decide +kernel
theorem dd_Reader_init_27 : decode prog_8_method_1_code 27 = .ok (.iconst 0, 1) := by decide +kernel
theorem dd_Reader_init_28 : decode prog_8_method_1_code 28 = .ok (.putfield 25, 3) := by decide +kernel
theorem dd_Reader_init_31 : decode prog_8_method_1_code 31 = .ok (.aload_n 0, 1) := by decide +kernel
theorem dd_Reader_init_32 : decode prog_8_method_1_code 32 = .ok (.iconst 0, 1) := by decide +kernel
theorem dd_Reader_init_33 : decode prog_8_method_1_code 33 = .ok (.putfield 29, 3) := by decide +kernel
theorem dd_Reader_init_36 : decode prog_8_method_1_code 36 = .ok (.return_, 1) := by decide +kernel
def jx_Reader_init (p0 : Option Nat) : sf_M (Unit) :=
  sf_bnd (sf_rc 7 p0 (sf_ret ())) fun _ =>
  sf_bnd (sf_new 6 5) fun x1 =>
  sf_bnd (sf_rc 6 x1 (jx_Program_init x1)) fun _ =>
  sf_bnd (sf_pR 7 0 p0 x1) fun _ =>
  sf_bnd (sf_new 9 9) fun x3 =>
  sf_bnd (sf_rc 9 x3 (jx_Tokens_init x3)) fun _ =>
  sf_bnd (sf_pR 7 1 p0 x3) fun _ =>
  sf_bnd (sf_pI 7 2 p0 (0 : Int32)) fun _ =>
  sf_bnd (sf_pI 7 3 p0 (0 : Int32)) fun _ =>
  sf_ret ()
set_option maxRecDepth 20000 in
set_option maxHeartbeats 4000000 in
theorem ok_Reader_init (p0 : Option Nat) : sf_Ok ({ cls := "SplitFares$Reader", name := "<init>", desc := "()V" } : Jvm.MethodName) prog_8_method_1_code 1 none 2 [sf_rv p0] (jx_Reader_init p0) (fun _ => none) := by
  refine sf_Ok.of (env := [some (sf_rv p0)]) (plainFor_of_name (by decide)) [false] (fun G => ⟨pk_r, trivial⟩) (Nat.le_of_ble_eq_true rfl) rfl (fun X => ?_)
  unfold jx_Reader_init
  refine fp_aload_n (i := 0) (r := p0) dd_Reader_init_0 rfl rfl (fr_pc (pc' := 1) rfl ?_)
  refine fr_obj (ci := 7) (by decide) sw_240 sw_27 sw_28 (Nat.le_of_ble_eq_true rfl) (Nat.le_of_ble_eq_true rfl) dd_Reader_init_1 (fr_pc (pc' := 4) rfl ?_)
  refine fp_aload_n (i := 0) (r := p0) dd_Reader_init_4 rfl rfl (fr_pc (pc' := 5) rfl ?_)
  refine fr_new cl_6 sw_241 sw_242 sw_10 dd_Reader_init_5 (fun x1 => fr_pc (pc' := 8) rfl ?_)
  refine fp_dup_r dd_Reader_init_8 (fr_pc (pc' := 9) rfl ?_)
  refine fr_callIN (stk := [sf_rv x1, sf_rv p0]) (As := []) (ci := 6) (by decide) rfl (ok_Program_init x1) mt_Program_init rfl rfl sn_243 sw_244 (by decide) (Nat.le_of_ble_eq_true rfl) dd_Reader_init_9 (fun u2 => fr_to (pc' := 12) (env' := [some (sf_rv p0)]) (stk' := [sf_rv x1, sf_rv p0]) rfl rfl rfl ?_)
  refine fr_pRg cl_7 0 (by decide) rfl sw_299 (Or.inr ⟨rfl, rfl, rfl⟩) (Or.inl ⟨_, rfl⟩) dd_Reader_init_12 (fr_pc (pc' := 15) rfl ?_)
  refine fp_aload_n (i := 0) (r := p0) dd_Reader_init_15 rfl rfl (fr_pc (pc' := 16) rfl ?_)
  refine fr_new cl_9 sw_265 sw_266 sw_11 dd_Reader_init_16 (fun x3 => fr_pc (pc' := 19) rfl ?_)
  refine fp_dup_r dd_Reader_init_19 (fr_pc (pc' := 20) rfl ?_)
  refine fr_callIN (stk := [sf_rv x3, sf_rv p0]) (As := []) (ci := 9) (by decide) rfl (ok_Tokens_init x3) mt_Tokens_init rfl rfl sn_267 sw_268 (by decide) (Nat.le_of_ble_eq_true rfl) dd_Reader_init_20 (fun u4 => fr_to (pc' := 23) (env' := [some (sf_rv p0)]) (stk' := [sf_rv x3, sf_rv p0]) rfl rfl rfl ?_)
  refine fr_pRg cl_7 1 (by decide) rfl sw_301 (Or.inr ⟨rfl, rfl, rfl⟩) (Or.inl ⟨_, rfl⟩) dd_Reader_init_23 (fr_pc (pc' := 26) rfl ?_)
  refine fp_aload_n (i := 0) (r := p0) dd_Reader_init_26 rfl rfl (fr_pc (pc' := 27) rfl ?_)
  refine fp_iconst (v := (0 : Int32)) dd_Reader_init_27 (by decide) (fr_pc (pc' := 28) rfl ?_)
  refine fr_pI cl_7 2 (by decide) rfl sw_302 rfl ⟨rfl, rfl⟩ dd_Reader_init_28 (fr_pc (pc' := 31) rfl ?_)
  refine fp_aload_n (i := 0) (r := p0) dd_Reader_init_31 rfl rfl (fr_pc (pc' := 32) rfl ?_)
  refine fp_iconst (v := (0 : Int32)) dd_Reader_init_32 (by decide) (fr_pc (pc' := 33) rfl ?_)
  refine fr_pI cl_7 3 (by decide) rfl sw_303 rfl ⟨rfl, rfl⟩ dd_Reader_init_33 (fr_pc (pc' := 36) rfl ?_)
  exact fr_vret rfl rfl dd_Reader_init_36
theorem mt_Reader_orderKind : sf_Mt ({ cls := "SplitFares$Reader", name := "orderKind", desc := "()I" } : Jvm.MethodName) prog_8_method_6_code 1 (some .int) 0 := ⟨sw_550, sw_9, ⟨by decide, by decide, by decide +kernel⟩, by decide⟩
theorem dd_Reader_orderKind_0 : decode prog_8_method_6_code 0 = .ok (.aload_n 0, 1) := by decide +kernel
theorem dd_Reader_orderKind_1 : decode prog_8_method_6_code 1 = .ok (.getfield 21, 3) := by decide +kernel
theorem dd_Reader_orderKind_4 : decode prog_8_method_6_code 4 = .ok (.ldc 96, 2) := by decide +kernel
theorem dd_Reader_orderKind_6 : decode prog_8_method_6_code 6 = .ok (.invokevirtual 53, 3) := by decide +kernel
theorem dd_Reader_orderKind_9 : decode prog_8_method_6_code 9 = .ok (.ifCond .eq 5, 3) := by decide +kernel
theorem dd_Reader_orderKind_12 : decode prog_8_method_6_code 12 = .ok (.iconst 0, 1) := by decide +kernel
theorem dd_Reader_orderKind_13 : decode prog_8_method_6_code 13 = .ok (.ireturn, 1) := by decide +kernel
theorem dd_Reader_orderKind_14 : decode prog_8_method_6_code 14 = .ok (.aload_n 0, 1) := by decide +kernel
theorem dd_Reader_orderKind_15 : decode prog_8_method_6_code 15 = .ok (.getfield 21, 3) := by decide +kernel
theorem dd_Reader_orderKind_18 : decode prog_8_method_6_code 18 = .ok (.ldc 98, 2) := by decide +kernel
theorem dd_Reader_orderKind_20 : decode prog_8_method_6_code 20 = .ok (.invokevirtual 53, 3) := by decide +kernel
theorem dd_Reader_orderKind_23 : decode prog_8_method_6_code 23 = .ok (.ifCond .eq 5, 3) := by decide +kernel
theorem dd_Reader_orderKind_26 : decode prog_8_method_6_code 26 = .ok (.iconst 1, 1) := by decide +kernel
theorem dd_Reader_orderKind_27 : decode prog_8_method_6_code 27 = .ok (.ireturn, 1) := by decide +kernel
theorem dd_Reader_orderKind_28 : decode prog_8_method_6_code 28 = .ok (.aload_n 0, 1) := by decide +kernel
theorem dd_Reader_orderKind_29 : decode prog_8_method_6_code 29 = .ok (.getfield 21, 3) := by decide +kernel
theorem dd_Reader_orderKind_32 : decode prog_8_method_6_code 32 = .ok (.ldc 100, 2) := by decide +kernel
theorem dd_Reader_orderKind_34 : decode prog_8_method_6_code 34 = .ok (.invokevirtual 53, 3) := by decide +kernel
theorem dd_Reader_orderKind_37 : decode prog_8_method_6_code 37 = .ok (.ifCond .eq 5, 3) := by decide +kernel
theorem dd_Reader_orderKind_40 : decode prog_8_method_6_code 40 = .ok (.iconst 2, 1) := by decide +kernel
theorem dd_Reader_orderKind_41 : decode prog_8_method_6_code 41 = .ok (.ireturn, 1) := by decide +kernel
theorem dd_Reader_orderKind_42 : decode prog_8_method_6_code 42 = .ok (.aload_n 0, 1) := by decide +kernel
theorem dd_Reader_orderKind_43 : decode prog_8_method_6_code 43 = .ok (.getfield 21, 3) := by decide +kernel
theorem dd_Reader_orderKind_46 : decode prog_8_method_6_code 46 = .ok (.ldc 102, 2) := by decide +kernel
theorem dd_Reader_orderKind_48 : decode prog_8_method_6_code 48 = .ok (.invokevirtual 53, 3) := by decide +kernel
theorem dd_Reader_orderKind_51 : decode prog_8_method_6_code 51 = .ok (.ifCond .eq 5, 3) := by decide +kernel
theorem dd_Reader_orderKind_54 : decode prog_8_method_6_code 54 = .ok (.iconst 3, 1) := by decide +kernel
theorem dd_Reader_orderKind_55 : decode prog_8_method_6_code 55 = .ok (.ireturn, 1) := by decide +kernel
theorem dd_Reader_orderKind_56 : decode prog_8_method_6_code 56 = .ok (.aload_n 0, 1) := by decide +kernel
theorem dd_Reader_orderKind_57 : decode prog_8_method_6_code 57 = .ok (.getfield 21, 3) := by decide +kernel
theorem dd_Reader_orderKind_60 : decode prog_8_method_6_code 60 = .ok (.ldc 104, 2) := by decide +kernel
theorem dd_Reader_orderKind_62 : decode prog_8_method_6_code 62 = .ok (.invokevirtual 53, 3) := by decide +kernel
theorem dd_Reader_orderKind_65 : decode prog_8_method_6_code 65 = .ok (.ifCond .eq 7, 3) := by decide +kernel
theorem dd_Reader_orderKind_68 : decode prog_8_method_6_code 68 = .ok (.iconst 4, 1) := by decide +kernel
theorem dd_Reader_orderKind_69 : decode prog_8_method_6_code 69 = .ok (.goto 4, 3) := by decide +kernel
theorem dd_Reader_orderKind_72 : decode prog_8_method_6_code 72 = .ok (.iconst (-1), 1) := by decide +kernel
theorem dd_Reader_orderKind_73 : decode prog_8_method_6_code 73 = .ok (.ireturn, 1) := by decide +kernel
def jx_Reader_orderKind (p0 : Option Nat) : sf_M (Int32) :=
  sf_bnd (sf_gR 7 1 p0) fun x1 =>
  sf_bnd (sf_rc 9 x1 (jx_Tokens_isWord x1 (UInt32.ofNat 0))) fun x2 =>
  if x2 = 0 then (
  sf_bnd (sf_gR 7 1 p0) fun x4 =>
  sf_bnd (sf_rc 9 x4 (jx_Tokens_isWord x4 (UInt32.ofNat 1))) fun x5 =>
  if x5 = 0 then (
  sf_bnd (sf_gR 7 1 p0) fun x7 =>
  sf_bnd (sf_rc 9 x7 (jx_Tokens_isWord x7 (UInt32.ofNat 2))) fun x8 =>
  if x8 = 0 then (
  sf_bnd (sf_gR 7 1 p0) fun x10 =>
  sf_bnd (sf_rc 9 x10 (jx_Tokens_isWord x10 (UInt32.ofNat 3))) fun x11 =>
  if x11 = 0 then (
  sf_bnd (sf_gR 7 1 p0) fun x13 =>
  sf_bnd (sf_rc 9 x13 (jx_Tokens_isWord x13 (UInt32.ofNat 4))) fun x14 =>
  if x14 = 0 then (
  sf_ret (-1 : Int32)
  ) else (
  sf_ret (4 : Int32)
  )
  ) else (
  sf_ret (3 : Int32)
  )
  ) else (
  sf_ret (2 : Int32)
  )
  ) else (
  sf_ret (1 : Int32)
  )
  ) else (
  sf_ret (0 : Int32)
  )
set_option maxRecDepth 20000 in
set_option maxHeartbeats 4000000 in
theorem ok_Reader_orderKind (p0 : Option Nat) : sf_Ok ({ cls := "SplitFares$Reader", name := "orderKind", desc := "()I" } : Jvm.MethodName) prog_8_method_6_code 1 (some .int) 7 [sf_rv p0] (jx_Reader_orderKind p0) (fun r => some (.int r)) := by
  refine sf_Ok.of (env := [some (sf_rv p0)]) (plainFor_of_name (by decide)) [false] (fun G => ⟨pk_r, trivial⟩) (Nat.le_of_ble_eq_true rfl) rfl (fun X => ?_)
  unfold jx_Reader_orderKind
  refine fp_aload_n (i := 0) (r := p0) dd_Reader_orderKind_0 rfl rfl (fr_pc (pc' := 1) rfl ?_)
  refine fr_gR cl_7 1 (by decide) rfl sw_301 dd_Reader_orderKind_1 (fun x1 => fr_pc (pc' := 4) rfl ?_)
  refine fp_ldcS (i := 0) rfl (by decide) rfl rfl dd_Reader_orderKind_4 (fr_pc (pc' := 6) rfl ?_)
  refine fr_callV (stk := []) (As := [.float (UInt32.ofNat 0)]) cl_9 (ok_Tokens_isWord x1 (UInt32.ofNat 0)) mt_Tokens_isWord rfl rfl sw_552 sw_553 sw_554 (by decide) (Nat.le_of_ble_eq_true rfl) dd_Reader_orderKind_6 (fun x2 => fr_to (pc' := 9) (env' := [some (sf_rv p0)]) (stk' := [.int x2]) rfl rfl rfl ?_)
  refine fr_if_eq (tgt := 14) dd_Reader_orderKind_9 rfl (fun _ => ?_) (fun _ => ?_)
  · refine fp_aload_n (i := 0) (r := p0) dd_Reader_orderKind_14 rfl rfl (fr_pc (pc' := 15) rfl ?_)
    refine fr_gR cl_7 1 (by decide) rfl sw_301 dd_Reader_orderKind_15 (fun x4 => fr_pc (pc' := 18) rfl ?_)
    refine fp_ldcS (i := 1) rfl (by decide) rfl rfl dd_Reader_orderKind_18 (fr_pc (pc' := 20) rfl ?_)
    refine fr_callV (stk := []) (As := [.float (UInt32.ofNat 1)]) cl_9 (ok_Tokens_isWord x4 (UInt32.ofNat 1)) mt_Tokens_isWord rfl rfl sw_552 sw_553 sw_554 (by decide) (Nat.le_of_ble_eq_true rfl) dd_Reader_orderKind_20 (fun x5 => fr_to (pc' := 23) (env' := [some (sf_rv p0)]) (stk' := [.int x5]) rfl rfl rfl ?_)
    refine fr_if_eq (tgt := 28) dd_Reader_orderKind_23 rfl (fun _ => ?_) (fun _ => ?_)
    · refine fp_aload_n (i := 0) (r := p0) dd_Reader_orderKind_28 rfl rfl (fr_pc (pc' := 29) rfl ?_)
      refine fr_gR cl_7 1 (by decide) rfl sw_301 dd_Reader_orderKind_29 (fun x7 => fr_pc (pc' := 32) rfl ?_)
      refine fp_ldcS (i := 2) rfl (by decide) rfl rfl dd_Reader_orderKind_32 (fr_pc (pc' := 34) rfl ?_)
      refine fr_callV (stk := []) (As := [.float (UInt32.ofNat 2)]) cl_9 (ok_Tokens_isWord x7 (UInt32.ofNat 2)) mt_Tokens_isWord rfl rfl sw_552 sw_553 sw_554 (by decide) (Nat.le_of_ble_eq_true rfl) dd_Reader_orderKind_34 (fun x8 => fr_to (pc' := 37) (env' := [some (sf_rv p0)]) (stk' := [.int x8]) rfl rfl rfl ?_)
      refine fr_if_eq (tgt := 42) dd_Reader_orderKind_37 rfl (fun _ => ?_) (fun _ => ?_)
      · refine fp_aload_n (i := 0) (r := p0) dd_Reader_orderKind_42 rfl rfl (fr_pc (pc' := 43) rfl ?_)
        refine fr_gR cl_7 1 (by decide) rfl sw_301 dd_Reader_orderKind_43 (fun x10 => fr_pc (pc' := 46) rfl ?_)
        refine fp_ldcS (i := 3) rfl (by decide) rfl rfl dd_Reader_orderKind_46 (fr_pc (pc' := 48) rfl ?_)
        refine fr_callV (stk := []) (As := [.float (UInt32.ofNat 3)]) cl_9 (ok_Tokens_isWord x10 (UInt32.ofNat 3)) mt_Tokens_isWord rfl rfl sw_552 sw_553 sw_554 (by decide) (Nat.le_of_ble_eq_true rfl) dd_Reader_orderKind_48 (fun x11 => fr_to (pc' := 51) (env' := [some (sf_rv p0)]) (stk' := [.int x11]) rfl rfl rfl ?_)
        refine fr_if_eq (tgt := 56) dd_Reader_orderKind_51 rfl (fun _ => ?_) (fun _ => ?_)
        · refine fp_aload_n (i := 0) (r := p0) dd_Reader_orderKind_56 rfl rfl (fr_pc (pc' := 57) rfl ?_)
          refine fr_gR cl_7 1 (by decide) rfl sw_301 dd_Reader_orderKind_57 (fun x13 => fr_pc (pc' := 60) rfl ?_)
          refine fp_ldcS (i := 4) rfl (by decide) rfl rfl dd_Reader_orderKind_60 (fr_pc (pc' := 62) rfl ?_)
          refine fr_callV (stk := []) (As := [.float (UInt32.ofNat 4)]) cl_9 (ok_Tokens_isWord x13 (UInt32.ofNat 4)) mt_Tokens_isWord rfl rfl sw_552 sw_553 sw_554 (by decide) (Nat.le_of_ble_eq_true rfl) dd_Reader_orderKind_62 (fun x14 => fr_to (pc' := 65) (env' := [some (sf_rv p0)]) (stk' := [.int x14]) rfl rfl rfl ?_)
          refine fr_if_eq (tgt := 72) dd_Reader_orderKind_65 rfl (fun _ => ?_) (fun _ => ?_)
          · refine fp_iconst (v := (-1 : Int32)) dd_Reader_orderKind_72 (by decide) (fr_pc (pc' := 73) rfl ?_)
            exact fr_iret (v := (-1 : Int32)) rfl rfl dd_Reader_orderKind_73
          · refine fr_pc (pc' := 68) rfl ?_
            refine fp_iconst (v := (4 : Int32)) dd_Reader_orderKind_68 (by decide) (fr_pc (pc' := 69) rfl ?_)
            refine fp_goto (tgt := 73) dd_Reader_orderKind_69 rfl ?_
            exact fr_iret (v := (4 : Int32)) rfl rfl dd_Reader_orderKind_73
        · refine fr_pc (pc' := 54) rfl ?_
          refine fp_iconst (v := (3 : Int32)) dd_Reader_orderKind_54 (by decide) (fr_pc (pc' := 55) rfl ?_)
          exact fr_iret (v := (3 : Int32)) rfl rfl dd_Reader_orderKind_55
      · refine fr_pc (pc' := 40) rfl ?_
        refine fp_iconst (v := (2 : Int32)) dd_Reader_orderKind_40 (by decide) (fr_pc (pc' := 41) rfl ?_)
        exact fr_iret (v := (2 : Int32)) rfl rfl dd_Reader_orderKind_41
    · refine fr_pc (pc' := 26) rfl ?_
      refine fp_iconst (v := (1 : Int32)) dd_Reader_orderKind_26 (by decide) (fr_pc (pc' := 27) rfl ?_)
      exact fr_iret (v := (1 : Int32)) rfl rfl dd_Reader_orderKind_27
  · refine fr_pc (pc' := 12) rfl ?_
    refine fp_iconst (v := (0 : Int32)) dd_Reader_orderKind_12 (by decide) (fr_pc (pc' := 13) rfl ?_)
    exact fr_iret (v := (0 : Int32)) rfl rfl dd_Reader_orderKind_13
theorem mt_Reader_signOf : sf_Mt ({ cls := "SplitFares$Reader", name := "signOf", desc := "(I)I" } : Jvm.MethodName) prog_8_method_12_code 2 (some .int) 1 := ⟨sw_634, sw_9, ⟨by decide, by decide, by decide +kernel⟩, by decide⟩
theorem dd_Reader_signOf_0 : decode prog_8_method_12_code 0 = .ok (.iload_n 1, 1) := by decide +kernel
theorem dd_Reader_signOf_1 : decode prog_8_method_12_code 1 = .ok (.ifCond .ne 36, 3) := by decide +kernel
theorem dd_Reader_signOf_4 : decode prog_8_method_12_code 4 = .ok (.aload_n 0, 1) := by decide +kernel
theorem dd_Reader_signOf_5 : decode prog_8_method_12_code 5 = .ok (.getfield 21, 3) := by decide +kernel
theorem dd_Reader_signOf_8 : decode prog_8_method_12_code 8 = .ok (.bipush 43, 2) := by decide +kernel
theorem dd_Reader_signOf_10 : decode prog_8_method_12_code 10 = .ok (.invokevirtual 70, 3) := by decide +kernel
theorem dd_Reader_signOf_13 : decode prog_8_method_12_code 13 = .ok (.ifCond .eq 5, 3) := by decide +kernel
theorem dd_Reader_signOf_16 : decode prog_8_method_12_code 16 = .ok (.iconst 5, 1) := by decide +kernel
theorem dd_Reader_signOf_17 : decode prog_8_method_12_code 17 = .ok (.ireturn, 1) := by decide +kernel
theorem dd_Reader_signOf_18 : decode prog_8_method_12_code 18 = .ok (.aload_n 0, 1) := by decide +kernel
theorem dd_Reader_signOf_19 : decode prog_8_method_12_code 19 = .ok (.getfield 21, 3) := by decide +kernel
theorem dd_Reader_signOf_22 : decode prog_8_method_12_code 22 = .ok (.bipush 45, 2) := by decide +kernel
theorem dd_Reader_signOf_24 : decode prog_8_method_12_code 24 = .ok (.invokevirtual 70, 3) := by decide +kernel
theorem dd_Reader_signOf_27 : decode prog_8_method_12_code 27 = .ok (.ifCond .eq 8, 3) := by decide +kernel
theorem dd_Reader_signOf_30 : decode prog_8_method_12_code 30 = .ok (.bipush 6, 2) := by decide +kernel
theorem dd_Reader_signOf_32 : decode prog_8_method_12_code 32 = .ok (.goto 4, 3) := by decide +kernel
theorem dd_Reader_signOf_35 : decode prog_8_method_12_code 35 = .ok (.iconst (-1), 1) := by decide +kernel
theorem dd_Reader_signOf_36 : decode prog_8_method_12_code 36 = .ok (.ireturn, 1) := by decide +kernel
theorem dd_Reader_signOf_37 : decode prog_8_method_12_code 37 = .ok (.aload_n 0, 1) := by decide +kernel
theorem dd_Reader_signOf_38 : decode prog_8_method_12_code 38 = .ok (.getfield 21, 3) := by decide +kernel
theorem dd_Reader_signOf_41 : decode prog_8_method_12_code 41 = .ok (.bipush 42, 2) := by decide +kernel
theorem dd_Reader_signOf_43 : decode prog_8_method_12_code 43 = .ok (.invokevirtual 70, 3) := by decide +kernel
theorem dd_Reader_signOf_46 : decode prog_8_method_12_code 46 = .ok (.ifCond .eq 6, 3) := by decide +kernel
theorem dd_Reader_signOf_49 : decode prog_8_method_12_code 49 = .ok (.bipush 7, 2) := by decide +kernel
theorem dd_Reader_signOf_51 : decode prog_8_method_12_code 51 = .ok (.ireturn, 1) := by decide +kernel
theorem dd_Reader_signOf_52 : decode prog_8_method_12_code 52 = .ok (.aload_n 0, 1) := by decide +kernel
theorem dd_Reader_signOf_53 : decode prog_8_method_12_code 53 = .ok (.getfield 21, 3) := by decide +kernel
theorem dd_Reader_signOf_56 : decode prog_8_method_12_code 56 = .ok (.bipush 47, 2) := by decide +kernel
theorem dd_Reader_signOf_58 : decode prog_8_method_12_code 58 = .ok (.invokevirtual 70, 3) := by decide +kernel
theorem dd_Reader_signOf_61 : decode prog_8_method_12_code 61 = .ok (.ifCond .eq 6, 3) := by decide +kernel
theorem dd_Reader_signOf_64 : decode prog_8_method_12_code 64 = .ok (.bipush 8, 2) := by decide +kernel
theorem dd_Reader_signOf_66 : decode prog_8_method_12_code 66 = .ok (.ireturn, 1) := by decide +kernel
theorem dd_Reader_signOf_67 : decode prog_8_method_12_code 67 = .ok (.aload_n 0, 1) := by decide +kernel
theorem dd_Reader_signOf_68 : decode prog_8_method_12_code 68 = .ok (.getfield 21, 3) := by decide +kernel
theorem dd_Reader_signOf_71 : decode prog_8_method_12_code 71 = .ok (.bipush 37, 2) := by decide +kernel
theorem dd_Reader_signOf_73 : decode prog_8_method_12_code 73 = .ok (.invokevirtual 70, 3) := by decide +kernel
theorem dd_Reader_signOf_76 : decode prog_8_method_12_code 76 = .ok (.ifCond .eq 8, 3) := by decide +kernel
theorem dd_Reader_signOf_79 : decode prog_8_method_12_code 79 = .ok (.bipush 9, 2) := by decide +kernel
theorem dd_Reader_signOf_81 : decode prog_8_method_12_code 81 = .ok (.goto 4, 3) := by decide +kernel
theorem dd_Reader_signOf_84 : decode prog_8_method_12_code 84 = .ok (.iconst (-1), 1) := by decide +kernel
theorem dd_Reader_signOf_85 : decode prog_8_method_12_code 85 = .ok (.ireturn, 1) := by decide +kernel
def jx_Reader_signOf (p0 : Option Nat) (p1 : Int32) : sf_M (Int32) :=
  if p1 = 0 then (
  sf_bnd (sf_gR 7 1 p0) fun x2 =>
  sf_bnd (sf_rc 9 x2 (jx_Tokens_isSign x2 (43 : Int32))) fun x3 =>
  if x3 = 0 then (
  sf_bnd (sf_gR 7 1 p0) fun x5 =>
  sf_bnd (sf_rc 9 x5 (jx_Tokens_isSign x5 (45 : Int32))) fun x6 =>
  if x6 = 0 then (
  sf_ret (-1 : Int32)
  ) else (
  sf_ret (6 : Int32)
  )
  ) else (
  sf_ret (5 : Int32)
  )
  ) else (
  sf_bnd (sf_gR 7 1 p0) fun x8 =>
  sf_bnd (sf_rc 9 x8 (jx_Tokens_isSign x8 (42 : Int32))) fun x9 =>
  if x9 = 0 then (
  sf_bnd (sf_gR 7 1 p0) fun x11 =>
  sf_bnd (sf_rc 9 x11 (jx_Tokens_isSign x11 (47 : Int32))) fun x12 =>
  if x12 = 0 then (
  sf_bnd (sf_gR 7 1 p0) fun x14 =>
  sf_bnd (sf_rc 9 x14 (jx_Tokens_isSign x14 (37 : Int32))) fun x15 =>
  if x15 = 0 then (
  sf_ret (-1 : Int32)
  ) else (
  sf_ret (9 : Int32)
  )
  ) else (
  sf_ret (8 : Int32)
  )
  ) else (
  sf_ret (7 : Int32)
  )
  )
set_option maxRecDepth 20000 in
set_option maxHeartbeats 4000000 in
theorem ok_Reader_signOf (p0 : Option Nat) (p1 : Int32) : sf_Ok ({ cls := "SplitFares$Reader", name := "signOf", desc := "(I)I" } : Jvm.MethodName) prog_8_method_12_code 2 (some .int) 2 [sf_rv p0, .int p1] (jx_Reader_signOf p0 p1) (fun r => some (.int r)) := by
  refine sf_Ok.of (env := [some (sf_rv p0), some (.int p1)]) (plainFor_of_name (by decide)) [false, false] (fun G => ⟨pk_r, pk_i, trivial⟩) (Nat.le_of_ble_eq_true rfl) rfl (fun X => ?_)
  unfold jx_Reader_signOf
  refine fp_iload_n (i := 1) (x := p1) dd_Reader_signOf_0 rfl rfl (fr_pc (pc' := 1) rfl ?_)
  refine fr_if_ne (tgt := 37) dd_Reader_signOf_1 rfl (fun _ => ?_) (fun _ => ?_)
  · refine fr_pc (pc' := 4) rfl ?_
    refine fp_aload_n (i := 0) (r := p0) dd_Reader_signOf_4 rfl rfl (fr_pc (pc' := 5) rfl ?_)
    refine fr_gR cl_7 1 (by decide) rfl sw_301 dd_Reader_signOf_5 (fun x2 => fr_pc (pc' := 8) rfl ?_)
    refine fp_bipush (v := (43 : Int32)) dd_Reader_signOf_8 (by decide) (fr_pc (pc' := 10) rfl ?_)
    refine fr_callV (stk := []) (As := [.int (43 : Int32)]) cl_9 (ok_Tokens_isSign x2 (43 : Int32)) mt_Tokens_isSign rfl rfl sw_635 sw_636 sw_637 (by decide) (Nat.le_of_ble_eq_true rfl) dd_Reader_signOf_10 (fun x3 => fr_to (pc' := 13) (env' := [some (sf_rv p0), some (.int p1)]) (stk' := [.int x3]) rfl rfl rfl ?_)
    refine fr_if_eq (tgt := 18) dd_Reader_signOf_13 rfl (fun _ => ?_) (fun _ => ?_)
    · refine fp_aload_n (i := 0) (r := p0) dd_Reader_signOf_18 rfl rfl (fr_pc (pc' := 19) rfl ?_)
      refine fr_gR cl_7 1 (by decide) rfl sw_301 dd_Reader_signOf_19 (fun x5 => fr_pc (pc' := 22) rfl ?_)
      refine fp_bipush (v := (45 : Int32)) dd_Reader_signOf_22 (by decide) (fr_pc (pc' := 24) rfl ?_)
      refine fr_callV (stk := []) (As := [.int (45 : Int32)]) cl_9 (ok_Tokens_isSign x5 (45 : Int32)) mt_Tokens_isSign rfl rfl sw_635 sw_636 sw_637 (by decide) (Nat.le_of_ble_eq_true rfl) dd_Reader_signOf_24 (fun x6 => fr_to (pc' := 27) (env' := [some (sf_rv p0), some (.int p1)]) (stk' := [.int x6]) rfl rfl rfl ?_)
      refine fr_if_eq (tgt := 35) dd_Reader_signOf_27 rfl (fun _ => ?_) (fun _ => ?_)
      · refine fp_iconst (v := (-1 : Int32)) dd_Reader_signOf_35 (by decide) (fr_pc (pc' := 36) rfl ?_)
        exact fr_iret (v := (-1 : Int32)) rfl rfl dd_Reader_signOf_36
      · refine fr_pc (pc' := 30) rfl ?_
        refine fp_bipush (v := (6 : Int32)) dd_Reader_signOf_30 (by decide) (fr_pc (pc' := 32) rfl ?_)
        refine fp_goto (tgt := 36) dd_Reader_signOf_32 rfl ?_
        exact fr_iret (v := (6 : Int32)) rfl rfl dd_Reader_signOf_36
    · refine fr_pc (pc' := 16) rfl ?_
      refine fp_iconst (v := (5 : Int32)) dd_Reader_signOf_16 (by decide) (fr_pc (pc' := 17) rfl ?_)
      exact fr_iret (v := (5 : Int32)) rfl rfl dd_Reader_signOf_17
  · refine fp_aload_n (i := 0) (r := p0) dd_Reader_signOf_37 rfl rfl (fr_pc (pc' := 38) rfl ?_)
    refine fr_gR cl_7 1 (by decide) rfl sw_301 dd_Reader_signOf_38 (fun x8 => fr_pc (pc' := 41) rfl ?_)
    refine fp_bipush (v := (42 : Int32)) dd_Reader_signOf_41 (by decide) (fr_pc (pc' := 43) rfl ?_)
    refine fr_callV (stk := []) (As := [.int (42 : Int32)]) cl_9 (ok_Tokens_isSign x8 (42 : Int32)) mt_Tokens_isSign rfl rfl sw_635 sw_636 sw_637 (by decide) (Nat.le_of_ble_eq_true rfl) dd_Reader_signOf_43 (fun x9 => fr_to (pc' := 46) (env' := [some (sf_rv p0), some (.int p1)]) (stk' := [.int x9]) rfl rfl rfl ?_)
    refine fr_if_eq (tgt := 52) dd_Reader_signOf_46 rfl (fun _ => ?_) (fun _ => ?_)
    · refine fp_aload_n (i := 0) (r := p0) dd_Reader_signOf_52 rfl rfl (fr_pc (pc' := 53) rfl ?_)
      refine fr_gR cl_7 1 (by decide) rfl sw_301 dd_Reader_signOf_53 (fun x11 => fr_pc (pc' := 56) rfl ?_)
      refine fp_bipush (v := (47 : Int32)) dd_Reader_signOf_56 (by decide) (fr_pc (pc' := 58) rfl ?_)
      refine fr_callV (stk := []) (As := [.int (47 : Int32)]) cl_9 (ok_Tokens_isSign x11 (47 : Int32)) mt_Tokens_isSign rfl rfl sw_635 sw_636 sw_637 (by decide) (Nat.le_of_ble_eq_true rfl) dd_Reader_signOf_58 (fun x12 => fr_to (pc' := 61) (env' := [some (sf_rv p0), some (.int p1)]) (stk' := [.int x12]) rfl rfl rfl ?_)
      refine fr_if_eq (tgt := 67) dd_Reader_signOf_61 rfl (fun _ => ?_) (fun _ => ?_)
      · refine fp_aload_n (i := 0) (r := p0) dd_Reader_signOf_67 rfl rfl (fr_pc (pc' := 68) rfl ?_)
        refine fr_gR cl_7 1 (by decide) rfl sw_301 dd_Reader_signOf_68 (fun x14 => fr_pc (pc' := 71) rfl ?_)
        refine fp_bipush (v := (37 : Int32)) dd_Reader_signOf_71 (by decide) (fr_pc (pc' := 73) rfl ?_)
        refine fr_callV (stk := []) (As := [.int (37 : Int32)]) cl_9 (ok_Tokens_isSign x14 (37 : Int32)) mt_Tokens_isSign rfl rfl sw_635 sw_636 sw_637 (by decide) (Nat.le_of_ble_eq_true rfl) dd_Reader_signOf_73 (fun x15 => fr_to (pc' := 76) (env' := [some (sf_rv p0), some (.int p1)]) (stk' := [.int x15]) rfl rfl rfl ?_)
        refine fr_if_eq (tgt := 84) dd_Reader_signOf_76 rfl (fun _ => ?_) (fun _ => ?_)
        · refine fp_iconst (v := (-1 : Int32)) dd_Reader_signOf_84 (by decide) (fr_pc (pc' := 85) rfl ?_)
          exact fr_iret (v := (-1 : Int32)) rfl rfl dd_Reader_signOf_85
        · refine fr_pc (pc' := 79) rfl ?_
          refine fp_bipush (v := (9 : Int32)) dd_Reader_signOf_79 (by decide) (fr_pc (pc' := 81) rfl ?_)
          refine fp_goto (tgt := 85) dd_Reader_signOf_81 rfl ?_
          exact fr_iret (v := (9 : Int32)) rfl rfl dd_Reader_signOf_85
      · refine fr_pc (pc' := 64) rfl ?_
        refine fp_bipush (v := (8 : Int32)) dd_Reader_signOf_64 (by decide) (fr_pc (pc' := 66) rfl ?_)
        exact fr_iret (v := (8 : Int32)) rfl rfl dd_Reader_signOf_66
    · refine fr_pc (pc' := 49) rfl ?_
      refine fp_bipush (v := (7 : Int32)) dd_Reader_signOf_49 (by decide) (fr_pc (pc' := 51) rfl ?_)
      exact fr_iret (v := (7 : Int32)) rfl rfl dd_Reader_signOf_51
theorem mt_Reader_orderWord : sf_Mt ({ cls := "SplitFares$Reader", name := "orderWord", desc := "()I" } : Jvm.MethodName) prog_8_method_15_code 1 (some .int) 0 := ⟨sw_655, sw_9, ⟨by decide, by decide, by decide +kernel⟩, by decide⟩
theorem dd_Reader_orderWord_0 : decode prog_8_method_15_code 0 = .ok (.aload_n 0, 1) := by decide +kernel
theorem dd_Reader_orderWord_1 : decode prog_8_method_15_code 1 = .ok (.getfield 21, 3) := by decide +kernel
theorem dd_Reader_orderWord_4 : decode prog_8_method_15_code 4 = .ok (.ldc 153, 2) := by decide +kernel
theorem dd_Reader_orderWord_6 : decode prog_8_method_15_code 6 = .ok (.invokevirtual 53, 3) := by decide +kernel
theorem dd_Reader_orderWord_9 : decode prog_8_method_15_code 9 = .ok (.ifCond .eq 5, 3) := by decide +kernel
theorem dd_Reader_orderWord_12 : decode prog_8_method_15_code 12 = .ok (.iconst 0, 1) := by decide +kernel
theorem dd_Reader_orderWord_13 : decode prog_8_method_15_code 13 = .ok (.ireturn, 1) := by decide +kernel
theorem dd_Reader_orderWord_14 : decode prog_8_method_15_code 14 = .ok (.aload_n 0, 1) := by decide +kernel
theorem dd_Reader_orderWord_15 : decode prog_8_method_15_code 15 = .ok (.getfield 21, 3) := by decide +kernel
theorem dd_Reader_orderWord_18 : decode prog_8_method_15_code 18 = .ok (.ldc 157, 2) := by decide +kernel
theorem dd_Reader_orderWord_20 : decode prog_8_method_15_code 20 = .ok (.invokevirtual 53, 3) := by decide +kernel
theorem dd_Reader_orderWord_23 : decode prog_8_method_15_code 23 = .ok (.ifCond .eq 5, 3) := by decide +kernel
theorem dd_Reader_orderWord_26 : decode prog_8_method_15_code 26 = .ok (.iconst 1, 1) := by decide +kernel
theorem dd_Reader_orderWord_27 : decode prog_8_method_15_code 27 = .ok (.ireturn, 1) := by decide +kernel
theorem dd_Reader_orderWord_28 : decode prog_8_method_15_code 28 = .ok (.aload_n 0, 1) := by decide +kernel
theorem dd_Reader_orderWord_29 : decode prog_8_method_15_code 29 = .ok (.getfield 21, 3) := by decide +kernel
theorem dd_Reader_orderWord_32 : decode prog_8_method_15_code 32 = .ok (.ldc 159, 2) := by decide +kernel
theorem dd_Reader_orderWord_34 : decode prog_8_method_15_code 34 = .ok (.invokevirtual 53, 3) := by decide +kernel
theorem dd_Reader_orderWord_37 : decode prog_8_method_15_code 37 = .ok (.ifCond .eq 5, 3) := by decide +kernel
theorem dd_Reader_orderWord_40 : decode prog_8_method_15_code 40 = .ok (.iconst 2, 1) := by decide +kernel
theorem dd_Reader_orderWord_41 : decode prog_8_method_15_code 41 = .ok (.ireturn, 1) := by decide +kernel
theorem dd_Reader_orderWord_42 : decode prog_8_method_15_code 42 = .ok (.aload_n 0, 1) := by decide +kernel
theorem dd_Reader_orderWord_43 : decode prog_8_method_15_code 43 = .ok (.getfield 21, 3) := by decide +kernel
theorem dd_Reader_orderWord_46 : decode prog_8_method_15_code 46 = .ok (.ldc 161, 2) := by decide +kernel
theorem dd_Reader_orderWord_48 : decode prog_8_method_15_code 48 = .ok (.invokevirtual 53, 3) := by decide +kernel
theorem dd_Reader_orderWord_51 : decode prog_8_method_15_code 51 = .ok (.ifCond .eq 5, 3) := by decide +kernel
theorem dd_Reader_orderWord_54 : decode prog_8_method_15_code 54 = .ok (.iconst 3, 1) := by decide +kernel
theorem dd_Reader_orderWord_55 : decode prog_8_method_15_code 55 = .ok (.ireturn, 1) := by decide +kernel
theorem dd_Reader_orderWord_56 : decode prog_8_method_15_code 56 = .ok (.aload_n 0, 1) := by decide +kernel
theorem dd_Reader_orderWord_57 : decode prog_8_method_15_code 57 = .ok (.getfield 21, 3) := by decide +kernel
theorem dd_Reader_orderWord_60 : decode prog_8_method_15_code 60 = .ok (.ldc 163, 2) := by decide +kernel
theorem dd_Reader_orderWord_62 : decode prog_8_method_15_code 62 = .ok (.invokevirtual 53, 3) := by decide +kernel
theorem dd_Reader_orderWord_65 : decode prog_8_method_15_code 65 = .ok (.ifCond .eq 5, 3) := by decide +kernel
theorem dd_Reader_orderWord_68 : decode prog_8_method_15_code 68 = .ok (.iconst 4, 1) := by decide +kernel
theorem dd_Reader_orderWord_69 : decode prog_8_method_15_code 69 = .ok (.ireturn, 1) := by decide +kernel
theorem dd_Reader_orderWord_70 : decode prog_8_method_15_code 70 = .ok (.aload_n 0, 1) := by decide +kernel
theorem dd_Reader_orderWord_71 : decode prog_8_method_15_code 71 = .ok (.getfield 21, 3) := by decide +kernel
theorem dd_Reader_orderWord_74 : decode prog_8_method_15_code 74 = .ok (.ldc 165, 2) := by decide +kernel
theorem dd_Reader_orderWord_76 : decode prog_8_method_15_code 76 = .ok (.invokevirtual 53, 3) := by decide +kernel
theorem dd_Reader_orderWord_79 : decode prog_8_method_15_code 79 = .ok (.ifCond .eq 5, 3) := by decide +kernel
theorem dd_Reader_orderWord_82 : decode prog_8_method_15_code 82 = .ok (.iconst 5, 1) := by decide +kernel
theorem dd_Reader_orderWord_83 : decode prog_8_method_15_code 83 = .ok (.ireturn, 1) := by decide +kernel
theorem dd_Reader_orderWord_84 : decode prog_8_method_15_code 84 = .ok (.aload_n 0, 1) := by decide +kernel
theorem dd_Reader_orderWord_85 : decode prog_8_method_15_code 85 = .ok (.getfield 21, 3) := by decide +kernel
theorem dd_Reader_orderWord_88 : decode prog_8_method_15_code 88 = .ok (.ldc 167, 2) := by decide +kernel
theorem dd_Reader_orderWord_90 : decode prog_8_method_15_code 90 = .ok (.invokevirtual 53, 3) := by decide +kernel
theorem dd_Reader_orderWord_93 : decode prog_8_method_15_code 93 = .ok (.ifCond .eq 8, 3) := by decide +kernel
theorem dd_Reader_orderWord_96 : decode prog_8_method_15_code 96 = .ok (.bipush 6, 2) := by decide +kernel
theorem dd_Reader_orderWord_98 : decode prog_8_method_15_code 98 = .ok (.goto 4, 3) := by decide +kernel
theorem dd_Reader_orderWord_101 : decode prog_8_method_15_code 101 = .ok (.iconst (-1), 1) := by decide +kernel
theorem dd_Reader_orderWord_102 : decode prog_8_method_15_code 102 = .ok (.ireturn, 1) := by decide +kernel
def jx_Reader_orderWord (p0 : Option Nat) : sf_M (Int32) :=
  sf_bnd (sf_gR 7 1 p0) fun x1 =>
  sf_bnd (sf_rc 9 x1 (jx_Tokens_isWord x1 (UInt32.ofNat 5))) fun x2 =>
  if x2 = 0 then (
  sf_bnd (sf_gR 7 1 p0) fun x4 =>
  sf_bnd (sf_rc 9 x4 (jx_Tokens_isWord x4 (UInt32.ofNat 6))) fun x5 =>
  if x5 = 0 then (
  sf_bnd (sf_gR 7 1 p0) fun x7 =>
  sf_bnd (sf_rc 9 x7 (jx_Tokens_isWord x7 (UInt32.ofNat 7))) fun x8 =>
  if x8 = 0 then (
  sf_bnd (sf_gR 7 1 p0) fun x10 =>
  sf_bnd (sf_rc 9 x10 (jx_Tokens_isWord x10 (UInt32.ofNat 8))) fun x11 =>
  if x11 = 0 then (
  sf_bnd (sf_gR 7 1 p0) fun x13 =>
  sf_bnd (sf_rc 9 x13 (jx_Tokens_isWord x13 (UInt32.ofNat 9))) fun x14 =>
  if x14 = 0 then (
  sf_bnd (sf_gR 7 1 p0) fun x16 =>
  sf_bnd (sf_rc 9 x16 (jx_Tokens_isWord x16 (UInt32.ofNat 10))) fun x17 =>
  if x17 = 0 then (
  sf_bnd (sf_gR 7 1 p0) fun x19 =>
  sf_bnd (sf_rc 9 x19 (jx_Tokens_isWord x19 (UInt32.ofNat 11))) fun x20 =>
  if x20 = 0 then (
  sf_ret (-1 : Int32)
  ) else (
  sf_ret (6 : Int32)
  )
  ) else (
  sf_ret (5 : Int32)
  )
  ) else (
  sf_ret (4 : Int32)
  )
  ) else (
  sf_ret (3 : Int32)
  )
  ) else (
  sf_ret (2 : Int32)
  )
  ) else (
  sf_ret (1 : Int32)
  )
  ) else (
  sf_ret (0 : Int32)
  )
set_option maxRecDepth 20000 in
set_option maxHeartbeats 4000000 in
theorem ok_Reader_orderWord (p0 : Option Nat) : sf_Ok ({ cls := "SplitFares$Reader", name := "orderWord", desc := "()I" } : Jvm.MethodName) prog_8_method_15_code 1 (some .int) 7 [sf_rv p0] (jx_Reader_orderWord p0) (fun r => some (.int r)) := by
  refine sf_Ok.of (env := [some (sf_rv p0)]) (plainFor_of_name (by decide)) [false] (fun G => ⟨pk_r, trivial⟩) (Nat.le_of_ble_eq_true rfl) rfl (fun X => ?_)
  unfold jx_Reader_orderWord
  refine fp_aload_n (i := 0) (r := p0) dd_Reader_orderWord_0 rfl rfl (fr_pc (pc' := 1) rfl ?_)
  refine fr_gR cl_7 1 (by decide) rfl sw_301 dd_Reader_orderWord_1 (fun x1 => fr_pc (pc' := 4) rfl ?_)
  refine fp_ldcS (i := 5) rfl (by decide) rfl rfl dd_Reader_orderWord_4 (fr_pc (pc' := 6) rfl ?_)
  refine fr_callV (stk := []) (As := [.float (UInt32.ofNat 5)]) cl_9 (ok_Tokens_isWord x1 (UInt32.ofNat 5)) mt_Tokens_isWord rfl rfl sw_552 sw_553 sw_554 (by decide) (Nat.le_of_ble_eq_true rfl) dd_Reader_orderWord_6 (fun x2 => fr_to (pc' := 9) (env' := [some (sf_rv p0)]) (stk' := [.int x2]) rfl rfl rfl ?_)
  refine fr_if_eq (tgt := 14) dd_Reader_orderWord_9 rfl (fun _ => ?_) (fun _ => ?_)
  · refine fp_aload_n (i := 0) (r := p0) dd_Reader_orderWord_14 rfl rfl (fr_pc (pc' := 15) rfl ?_)
    refine fr_gR cl_7 1 (by decide) rfl sw_301 dd_Reader_orderWord_15 (fun x4 => fr_pc (pc' := 18) rfl ?_)
    refine fp_ldcS (i := 6) rfl (by decide) rfl rfl dd_Reader_orderWord_18 (fr_pc (pc' := 20) rfl ?_)
    refine fr_callV (stk := []) (As := [.float (UInt32.ofNat 6)]) cl_9 (ok_Tokens_isWord x4 (UInt32.ofNat 6)) mt_Tokens_isWord rfl rfl sw_552 sw_553 sw_554 (by decide) (Nat.le_of_ble_eq_true rfl) dd_Reader_orderWord_20 (fun x5 => fr_to (pc' := 23) (env' := [some (sf_rv p0)]) (stk' := [.int x5]) rfl rfl rfl ?_)
    refine fr_if_eq (tgt := 28) dd_Reader_orderWord_23 rfl (fun _ => ?_) (fun _ => ?_)
    · refine fp_aload_n (i := 0) (r := p0) dd_Reader_orderWord_28 rfl rfl (fr_pc (pc' := 29) rfl ?_)
      refine fr_gR cl_7 1 (by decide) rfl sw_301 dd_Reader_orderWord_29 (fun x7 => fr_pc (pc' := 32) rfl ?_)
      refine fp_ldcS (i := 7) rfl (by decide) rfl rfl dd_Reader_orderWord_32 (fr_pc (pc' := 34) rfl ?_)
      refine fr_callV (stk := []) (As := [.float (UInt32.ofNat 7)]) cl_9 (ok_Tokens_isWord x7 (UInt32.ofNat 7)) mt_Tokens_isWord rfl rfl sw_552 sw_553 sw_554 (by decide) (Nat.le_of_ble_eq_true rfl) dd_Reader_orderWord_34 (fun x8 => fr_to (pc' := 37) (env' := [some (sf_rv p0)]) (stk' := [.int x8]) rfl rfl rfl ?_)
      refine fr_if_eq (tgt := 42) dd_Reader_orderWord_37 rfl (fun _ => ?_) (fun _ => ?_)
      · refine fp_aload_n (i := 0) (r := p0) dd_Reader_orderWord_42 rfl rfl (fr_pc (pc' := 43) rfl ?_)
        refine fr_gR cl_7 1 (by decide) rfl sw_301 dd_Reader_orderWord_43 (fun x10 => fr_pc (pc' := 46) rfl ?_)
        refine fp_ldcS (i := 8) rfl (by decide) rfl rfl dd_Reader_orderWord_46 (fr_pc (pc' := 48) rfl ?_)
        refine fr_callV (stk := []) (As := [.float (UInt32.ofNat 8)]) cl_9 (ok_Tokens_isWord x10 (UInt32.ofNat 8)) mt_Tokens_isWord rfl rfl sw_552 sw_553 sw_554 (by decide) (Nat.le_of_ble_eq_true rfl) dd_Reader_orderWord_48 (fun x11 => fr_to (pc' := 51) (env' := [some (sf_rv p0)]) (stk' := [.int x11]) rfl rfl rfl ?_)
        refine fr_if_eq (tgt := 56) dd_Reader_orderWord_51 rfl (fun _ => ?_) (fun _ => ?_)
        · refine fp_aload_n (i := 0) (r := p0) dd_Reader_orderWord_56 rfl rfl (fr_pc (pc' := 57) rfl ?_)
          refine fr_gR cl_7 1 (by decide) rfl sw_301 dd_Reader_orderWord_57 (fun x13 => fr_pc (pc' := 60) rfl ?_)
          refine fp_ldcS (i := 9) rfl (by decide) rfl rfl dd_Reader_orderWord_60 (fr_pc (pc' := 62) rfl ?_)
          refine fr_callV (stk := []) (As := [.float (UInt32.ofNat 9)]) cl_9 (ok_Tokens_isWord x13 (UInt32.ofNat 9)) mt_Tokens_isWord rfl rfl sw_552 sw_553 sw_554 (by decide) (Nat.le_of_ble_eq_true rfl) dd_Reader_orderWord_62 (fun x14 => fr_to (pc' := 65) (env' := [some (sf_rv p0)]) (stk' := [.int x14]) rfl rfl rfl ?_)
          refine fr_if_eq (tgt := 70) dd_Reader_orderWord_65 rfl (fun _ => ?_) (fun _ => ?_)
          · refine fp_aload_n (i := 0) (r := p0) dd_Reader_orderWord_70 rfl rfl (fr_pc (pc' := 71) rfl ?_)
            refine fr_gR cl_7 1 (by decide) rfl sw_301 dd_Reader_orderWord_71 (fun x16 => fr_pc (pc' := 74) rfl ?_)
            refine fp_ldcS (i := 10) rfl (by decide) rfl rfl dd_Reader_orderWord_74 (fr_pc (pc' := 76) rfl ?_)
            refine fr_callV (stk := []) (As := [.float (UInt32.ofNat 10)]) cl_9 (ok_Tokens_isWord x16 (UInt32.ofNat 10)) mt_Tokens_isWord rfl rfl sw_552 sw_553 sw_554 (by decide) (Nat.le_of_ble_eq_true rfl) dd_Reader_orderWord_76 (fun x17 => fr_to (pc' := 79) (env' := [some (sf_rv p0)]) (stk' := [.int x17]) rfl rfl rfl ?_)
            refine fr_if_eq (tgt := 84) dd_Reader_orderWord_79 rfl (fun _ => ?_) (fun _ => ?_)
            · refine fp_aload_n (i := 0) (r := p0) dd_Reader_orderWord_84 rfl rfl (fr_pc (pc' := 85) rfl ?_)
              refine fr_gR cl_7 1 (by decide) rfl sw_301 dd_Reader_orderWord_85 (fun x19 => fr_pc (pc' := 88) rfl ?_)
              refine fp_ldcS (i := 11) rfl (by decide) rfl rfl dd_Reader_orderWord_88 (fr_pc (pc' := 90) rfl ?_)
              refine fr_callV (stk := []) (As := [.float (UInt32.ofNat 11)]) cl_9 (ok_Tokens_isWord x19 (UInt32.ofNat 11)) mt_Tokens_isWord rfl rfl sw_552 sw_553 sw_554 (by decide) (Nat.le_of_ble_eq_true rfl) dd_Reader_orderWord_90 (fun x20 => fr_to (pc' := 93) (env' := [some (sf_rv p0)]) (stk' := [.int x20]) rfl rfl rfl ?_)
              refine fr_if_eq (tgt := 101) dd_Reader_orderWord_93 rfl (fun _ => ?_) (fun _ => ?_)
              · refine fp_iconst (v := (-1 : Int32)) dd_Reader_orderWord_101 (by decide) (fr_pc (pc' := 102) rfl ?_)
                exact fr_iret (v := (-1 : Int32)) rfl rfl dd_Reader_orderWord_102
              · refine fr_pc (pc' := 96) rfl ?_
                refine fp_bipush (v := (6 : Int32)) dd_Reader_orderWord_96 (by decide) (fr_pc (pc' := 98) rfl ?_)
                refine fp_goto (tgt := 102) dd_Reader_orderWord_98 rfl ?_
                exact fr_iret (v := (6 : Int32)) rfl rfl dd_Reader_orderWord_102
            · refine fr_pc (pc' := 82) rfl ?_
              refine fp_iconst (v := (5 : Int32)) dd_Reader_orderWord_82 (by decide) (fr_pc (pc' := 83) rfl ?_)
              exact fr_iret (v := (5 : Int32)) rfl rfl dd_Reader_orderWord_83
          · refine fr_pc (pc' := 68) rfl ?_
            refine fp_iconst (v := (4 : Int32)) dd_Reader_orderWord_68 (by decide) (fr_pc (pc' := 69) rfl ?_)
            exact fr_iret (v := (4 : Int32)) rfl rfl dd_Reader_orderWord_69
        · refine fr_pc (pc' := 54) rfl ?_
          refine fp_iconst (v := (3 : Int32)) dd_Reader_orderWord_54 (by decide) (fr_pc (pc' := 55) rfl ?_)
          exact fr_iret (v := (3 : Int32)) rfl rfl dd_Reader_orderWord_55
      · refine fr_pc (pc' := 40) rfl ?_
        refine fp_iconst (v := (2 : Int32)) dd_Reader_orderWord_40 (by decide) (fr_pc (pc' := 41) rfl ?_)
        exact fr_iret (v := (2 : Int32)) rfl rfl dd_Reader_orderWord_41
    · refine fr_pc (pc' := 26) rfl ?_
      refine fp_iconst (v := (1 : Int32)) dd_Reader_orderWord_26 (by decide) (fr_pc (pc' := 27) rfl ?_)
      exact fr_iret (v := (1 : Int32)) rfl rfl dd_Reader_orderWord_27
  · refine fr_pc (pc' := 12) rfl ?_
    refine fp_iconst (v := (0 : Int32)) dd_Reader_orderWord_12 (by decide) (fr_pc (pc' := 13) rfl ?_)
    exact fr_iret (v := (0 : Int32)) rfl rfl dd_Reader_orderWord_13
theorem mt_Reader_lawWord : sf_Mt ({ cls := "SplitFares$Reader", name := "lawWord", desc := "()I" } : Jvm.MethodName) prog_8_method_14_code 1 (some .int) 0 := ⟨sw_666, sw_9, ⟨by decide, by decide, by decide +kernel⟩, by decide⟩
theorem dd_Reader_lawWord_0 : decode prog_8_method_14_code 0 = .ok (.aload_n 0, 1) := by decide +kernel
theorem dd_Reader_lawWord_1 : decode prog_8_method_14_code 1 = .ok (.getfield 21, 3) := by decide +kernel
theorem dd_Reader_lawWord_4 : decode prog_8_method_14_code 4 = .ok (.ldc 147, 2) := by decide +kernel
theorem dd_Reader_lawWord_6 : decode prog_8_method_14_code 6 = .ok (.invokevirtual 53, 3) := by decide +kernel
theorem dd_Reader_lawWord_9 : decode prog_8_method_14_code 9 = .ok (.ifCond .eq 5, 3) := by decide +kernel
theorem dd_Reader_lawWord_12 : decode prog_8_method_14_code 12 = .ok (.iconst 0, 1) := by decide +kernel
theorem dd_Reader_lawWord_13 : decode prog_8_method_14_code 13 = .ok (.ireturn, 1) := by decide +kernel
theorem dd_Reader_lawWord_14 : decode prog_8_method_14_code 14 = .ok (.aload_n 0, 1) := by decide +kernel
theorem dd_Reader_lawWord_15 : decode prog_8_method_14_code 15 = .ok (.getfield 21, 3) := by decide +kernel
theorem dd_Reader_lawWord_18 : decode prog_8_method_14_code 18 = .ok (.ldc 91, 2) := by decide +kernel
theorem dd_Reader_lawWord_20 : decode prog_8_method_14_code 20 = .ok (.invokevirtual 53, 3) := by decide +kernel
theorem dd_Reader_lawWord_23 : decode prog_8_method_14_code 23 = .ok (.ifCond .eq 5, 3) := by decide +kernel
theorem dd_Reader_lawWord_26 : decode prog_8_method_14_code 26 = .ok (.iconst 1, 1) := by decide +kernel
theorem dd_Reader_lawWord_27 : decode prog_8_method_14_code 27 = .ok (.ireturn, 1) := by decide +kernel
theorem dd_Reader_lawWord_28 : decode prog_8_method_14_code 28 = .ok (.aload_n 0, 1) := by decide +kernel
theorem dd_Reader_lawWord_29 : decode prog_8_method_14_code 29 = .ok (.getfield 21, 3) := by decide +kernel
theorem dd_Reader_lawWord_32 : decode prog_8_method_14_code 32 = .ok (.ldc 149, 2) := by decide +kernel
theorem dd_Reader_lawWord_34 : decode prog_8_method_14_code 34 = .ok (.invokevirtual 53, 3) := by decide +kernel
theorem dd_Reader_lawWord_37 : decode prog_8_method_14_code 37 = .ok (.ifCond .eq 5, 3) := by decide +kernel
theorem dd_Reader_lawWord_40 : decode prog_8_method_14_code 40 = .ok (.iconst 2, 1) := by decide +kernel
theorem dd_Reader_lawWord_41 : decode prog_8_method_14_code 41 = .ok (.ireturn, 1) := by decide +kernel
theorem dd_Reader_lawWord_42 : decode prog_8_method_14_code 42 = .ok (.aload_n 0, 1) := by decide +kernel
theorem dd_Reader_lawWord_43 : decode prog_8_method_14_code 43 = .ok (.getfield 21, 3) := by decide +kernel
theorem dd_Reader_lawWord_46 : decode prog_8_method_14_code 46 = .ok (.ldc 98, 2) := by decide +kernel
theorem dd_Reader_lawWord_48 : decode prog_8_method_14_code 48 = .ok (.invokevirtual 53, 3) := by decide +kernel
theorem dd_Reader_lawWord_51 : decode prog_8_method_14_code 51 = .ok (.ifCond .eq 5, 3) := by decide +kernel
theorem dd_Reader_lawWord_54 : decode prog_8_method_14_code 54 = .ok (.iconst 3, 1) := by decide +kernel
theorem dd_Reader_lawWord_55 : decode prog_8_method_14_code 55 = .ok (.ireturn, 1) := by decide +kernel
theorem dd_Reader_lawWord_56 : decode prog_8_method_14_code 56 = .ok (.aload_n 0, 1) := by decide +kernel
theorem dd_Reader_lawWord_57 : decode prog_8_method_14_code 57 = .ok (.getfield 21, 3) := by decide +kernel
theorem dd_Reader_lawWord_60 : decode prog_8_method_14_code 60 = .ok (.ldc 151, 2) := by decide +kernel
theorem dd_Reader_lawWord_62 : decode prog_8_method_14_code 62 = .ok (.invokevirtual 53, 3) := by decide +kernel
theorem dd_Reader_lawWord_65 : decode prog_8_method_14_code 65 = .ok (.ifCond .eq 5, 3) := by decide +kernel
theorem dd_Reader_lawWord_68 : decode prog_8_method_14_code 68 = .ok (.iconst 4, 1) := by decide +kernel
theorem dd_Reader_lawWord_69 : decode prog_8_method_14_code 69 = .ok (.ireturn, 1) := by decide +kernel
theorem dd_Reader_lawWord_70 : decode prog_8_method_14_code 70 = .ok (.aload_n 0, 1) := by decide +kernel
theorem dd_Reader_lawWord_71 : decode prog_8_method_14_code 71 = .ok (.getfield 21, 3) := by decide +kernel
theorem dd_Reader_lawWord_74 : decode prog_8_method_14_code 74 = .ok (.ldc 153, 2) := by decide +kernel
theorem dd_Reader_lawWord_76 : decode prog_8_method_14_code 76 = .ok (.invokevirtual 53, 3) := by decide +kernel
theorem dd_Reader_lawWord_79 : decode prog_8_method_14_code 79 = .ok (.ifCond .eq 5, 3) := by decide +kernel
theorem dd_Reader_lawWord_82 : decode prog_8_method_14_code 82 = .ok (.iconst 5, 1) := by decide +kernel
theorem dd_Reader_lawWord_83 : decode prog_8_method_14_code 83 = .ok (.ireturn, 1) := by decide +kernel
theorem dd_Reader_lawWord_84 : decode prog_8_method_14_code 84 = .ok (.aload_n 0, 1) := by decide +kernel
theorem dd_Reader_lawWord_85 : decode prog_8_method_14_code 85 = .ok (.getfield 21, 3) := by decide +kernel
theorem dd_Reader_lawWord_88 : decode prog_8_method_14_code 88 = .ok (.ldc 155, 2) := by decide +kernel
theorem dd_Reader_lawWord_90 : decode prog_8_method_14_code 90 = .ok (.invokevirtual 53, 3) := by decide +kernel
theorem dd_Reader_lawWord_93 : decode prog_8_method_14_code 93 = .ok (.ifCond .eq 8, 3) := by decide +kernel
theorem dd_Reader_lawWord_96 : decode prog_8_method_14_code 96 = .ok (.bipush 6, 2) := by decide +kernel
theorem dd_Reader_lawWord_98 : decode prog_8_method_14_code 98 = .ok (.goto 4, 3) := by decide +kernel
theorem dd_Reader_lawWord_101 : decode prog_8_method_14_code 101 = .ok (.iconst (-1), 1) := by decide +kernel
theorem dd_Reader_lawWord_102 : decode prog_8_method_14_code 102 = .ok (.ireturn, 1) := by decide +kernel
def jx_Reader_lawWord (p0 : Option Nat) : sf_M (Int32) :=
  sf_bnd (sf_gR 7 1 p0) fun x1 =>
  sf_bnd (sf_rc 9 x1 (jx_Tokens_isWord x1 (UInt32.ofNat 12))) fun x2 =>
  if x2 = 0 then (
  sf_bnd (sf_gR 7 1 p0) fun x4 =>
  sf_bnd (sf_rc 9 x4 (jx_Tokens_isWord x4 (UInt32.ofNat 13))) fun x5 =>
  if x5 = 0 then (
  sf_bnd (sf_gR 7 1 p0) fun x7 =>
  sf_bnd (sf_rc 9 x7 (jx_Tokens_isWord x7 (UInt32.ofNat 14))) fun x8 =>
  if x8 = 0 then (
  sf_bnd (sf_gR 7 1 p0) fun x10 =>
  sf_bnd (sf_rc 9 x10 (jx_Tokens_isWord x10 (UInt32.ofNat 1))) fun x11 =>
  if x11 = 0 then (
  sf_bnd (sf_gR 7 1 p0) fun x13 =>
  sf_bnd (sf_rc 9 x13 (jx_Tokens_isWord x13 (UInt32.ofNat 15))) fun x14 =>
  if x14 = 0 then (
  sf_bnd (sf_gR 7 1 p0) fun x16 =>
  sf_bnd (sf_rc 9 x16 (jx_Tokens_isWord x16 (UInt32.ofNat 5))) fun x17 =>
  if x17 = 0 then (
  sf_bnd (sf_gR 7 1 p0) fun x19 =>
  sf_bnd (sf_rc 9 x19 (jx_Tokens_isWord x19 (UInt32.ofNat 16))) fun x20 =>
  if x20 = 0 then (
  sf_ret (-1 : Int32)
  ) else (
  sf_ret (6 : Int32)
  )
  ) else (
  sf_ret (5 : Int32)
  )
  ) else (
  sf_ret (4 : Int32)
  )
  ) else (
  sf_ret (3 : Int32)
  )
  ) else (
  sf_ret (2 : Int32)
  )
  ) else (
  sf_ret (1 : Int32)
  )
  ) else (
  sf_ret (0 : Int32)
  )
set_option maxRecDepth 20000 in
set_option maxHeartbeats 4000000 in
theorem ok_Reader_lawWord (p0 : Option Nat) : sf_Ok ({ cls := "SplitFares$Reader", name := "lawWord", desc := "()I" } : Jvm.MethodName) prog_8_method_14_code 1 (some .int) 7 [sf_rv p0] (jx_Reader_lawWord p0) (fun r => some (.int r)) := by
  refine sf_Ok.of (env := [some (sf_rv p0)]) (plainFor_of_name (by decide)) [false] (fun G => ⟨pk_r, trivial⟩) (Nat.le_of_ble_eq_true rfl) rfl (fun X => ?_)
  unfold jx_Reader_lawWord
  refine fp_aload_n (i := 0) (r := p0) dd_Reader_lawWord_0 rfl rfl (fr_pc (pc' := 1) rfl ?_)
  refine fr_gR cl_7 1 (by decide) rfl sw_301 dd_Reader_lawWord_1 (fun x1 => fr_pc (pc' := 4) rfl ?_)
  refine fp_ldcS (i := 12) rfl (by decide) rfl rfl dd_Reader_lawWord_4 (fr_pc (pc' := 6) rfl ?_)
  refine fr_callV (stk := []) (As := [.float (UInt32.ofNat 12)]) cl_9 (ok_Tokens_isWord x1 (UInt32.ofNat 12)) mt_Tokens_isWord rfl rfl sw_552 sw_553 sw_554 (by decide) (Nat.le_of_ble_eq_true rfl) dd_Reader_lawWord_6 (fun x2 => fr_to (pc' := 9) (env' := [some (sf_rv p0)]) (stk' := [.int x2]) rfl rfl rfl ?_)
  refine fr_if_eq (tgt := 14) dd_Reader_lawWord_9 rfl (fun _ => ?_) (fun _ => ?_)
  · refine fp_aload_n (i := 0) (r := p0) dd_Reader_lawWord_14 rfl rfl (fr_pc (pc' := 15) rfl ?_)
    refine fr_gR cl_7 1 (by decide) rfl sw_301 dd_Reader_lawWord_15 (fun x4 => fr_pc (pc' := 18) rfl ?_)
    refine fp_ldcS (i := 13) rfl (by decide) rfl rfl dd_Reader_lawWord_18 (fr_pc (pc' := 20) rfl ?_)
    refine fr_callV (stk := []) (As := [.float (UInt32.ofNat 13)]) cl_9 (ok_Tokens_isWord x4 (UInt32.ofNat 13)) mt_Tokens_isWord rfl rfl sw_552 sw_553 sw_554 (by decide) (Nat.le_of_ble_eq_true rfl) dd_Reader_lawWord_20 (fun x5 => fr_to (pc' := 23) (env' := [some (sf_rv p0)]) (stk' := [.int x5]) rfl rfl rfl ?_)
    refine fr_if_eq (tgt := 28) dd_Reader_lawWord_23 rfl (fun _ => ?_) (fun _ => ?_)
    · refine fp_aload_n (i := 0) (r := p0) dd_Reader_lawWord_28 rfl rfl (fr_pc (pc' := 29) rfl ?_)
      refine fr_gR cl_7 1 (by decide) rfl sw_301 dd_Reader_lawWord_29 (fun x7 => fr_pc (pc' := 32) rfl ?_)
      refine fp_ldcS (i := 14) rfl (by decide) rfl rfl dd_Reader_lawWord_32 (fr_pc (pc' := 34) rfl ?_)
      refine fr_callV (stk := []) (As := [.float (UInt32.ofNat 14)]) cl_9 (ok_Tokens_isWord x7 (UInt32.ofNat 14)) mt_Tokens_isWord rfl rfl sw_552 sw_553 sw_554 (by decide) (Nat.le_of_ble_eq_true rfl) dd_Reader_lawWord_34 (fun x8 => fr_to (pc' := 37) (env' := [some (sf_rv p0)]) (stk' := [.int x8]) rfl rfl rfl ?_)
      refine fr_if_eq (tgt := 42) dd_Reader_lawWord_37 rfl (fun _ => ?_) (fun _ => ?_)
      · refine fp_aload_n (i := 0) (r := p0) dd_Reader_lawWord_42 rfl rfl (fr_pc (pc' := 43) rfl ?_)
        refine fr_gR cl_7 1 (by decide) rfl sw_301 dd_Reader_lawWord_43 (fun x10 => fr_pc (pc' := 46) rfl ?_)
        refine fp_ldcS (i := 1) rfl (by decide) rfl rfl dd_Reader_lawWord_46 (fr_pc (pc' := 48) rfl ?_)
        refine fr_callV (stk := []) (As := [.float (UInt32.ofNat 1)]) cl_9 (ok_Tokens_isWord x10 (UInt32.ofNat 1)) mt_Tokens_isWord rfl rfl sw_552 sw_553 sw_554 (by decide) (Nat.le_of_ble_eq_true rfl) dd_Reader_lawWord_48 (fun x11 => fr_to (pc' := 51) (env' := [some (sf_rv p0)]) (stk' := [.int x11]) rfl rfl rfl ?_)
        refine fr_if_eq (tgt := 56) dd_Reader_lawWord_51 rfl (fun _ => ?_) (fun _ => ?_)
        · refine fp_aload_n (i := 0) (r := p0) dd_Reader_lawWord_56 rfl rfl (fr_pc (pc' := 57) rfl ?_)
          refine fr_gR cl_7 1 (by decide) rfl sw_301 dd_Reader_lawWord_57 (fun x13 => fr_pc (pc' := 60) rfl ?_)
          refine fp_ldcS (i := 15) rfl (by decide) rfl rfl dd_Reader_lawWord_60 (fr_pc (pc' := 62) rfl ?_)
          refine fr_callV (stk := []) (As := [.float (UInt32.ofNat 15)]) cl_9 (ok_Tokens_isWord x13 (UInt32.ofNat 15)) mt_Tokens_isWord rfl rfl sw_552 sw_553 sw_554 (by decide) (Nat.le_of_ble_eq_true rfl) dd_Reader_lawWord_62 (fun x14 => fr_to (pc' := 65) (env' := [some (sf_rv p0)]) (stk' := [.int x14]) rfl rfl rfl ?_)
          refine fr_if_eq (tgt := 70) dd_Reader_lawWord_65 rfl (fun _ => ?_) (fun _ => ?_)
          · refine fp_aload_n (i := 0) (r := p0) dd_Reader_lawWord_70 rfl rfl (fr_pc (pc' := 71) rfl ?_)
            refine fr_gR cl_7 1 (by decide) rfl sw_301 dd_Reader_lawWord_71 (fun x16 => fr_pc (pc' := 74) rfl ?_)
            refine fp_ldcS (i := 5) rfl (by decide) rfl rfl dd_Reader_lawWord_74 (fr_pc (pc' := 76) rfl ?_)
            refine fr_callV (stk := []) (As := [.float (UInt32.ofNat 5)]) cl_9 (ok_Tokens_isWord x16 (UInt32.ofNat 5)) mt_Tokens_isWord rfl rfl sw_552 sw_553 sw_554 (by decide) (Nat.le_of_ble_eq_true rfl) dd_Reader_lawWord_76 (fun x17 => fr_to (pc' := 79) (env' := [some (sf_rv p0)]) (stk' := [.int x17]) rfl rfl rfl ?_)
            refine fr_if_eq (tgt := 84) dd_Reader_lawWord_79 rfl (fun _ => ?_) (fun _ => ?_)
            · refine fp_aload_n (i := 0) (r := p0) dd_Reader_lawWord_84 rfl rfl (fr_pc (pc' := 85) rfl ?_)
              refine fr_gR cl_7 1 (by decide) rfl sw_301 dd_Reader_lawWord_85 (fun x19 => fr_pc (pc' := 88) rfl ?_)
              refine fp_ldcS (i := 16) rfl (by decide) rfl rfl dd_Reader_lawWord_88 (fr_pc (pc' := 90) rfl ?_)
              refine fr_callV (stk := []) (As := [.float (UInt32.ofNat 16)]) cl_9 (ok_Tokens_isWord x19 (UInt32.ofNat 16)) mt_Tokens_isWord rfl rfl sw_552 sw_553 sw_554 (by decide) (Nat.le_of_ble_eq_true rfl) dd_Reader_lawWord_90 (fun x20 => fr_to (pc' := 93) (env' := [some (sf_rv p0)]) (stk' := [.int x20]) rfl rfl rfl ?_)
              refine fr_if_eq (tgt := 101) dd_Reader_lawWord_93 rfl (fun _ => ?_) (fun _ => ?_)
              · refine fp_iconst (v := (-1 : Int32)) dd_Reader_lawWord_101 (by decide) (fr_pc (pc' := 102) rfl ?_)
                exact fr_iret (v := (-1 : Int32)) rfl rfl dd_Reader_lawWord_102
              · refine fr_pc (pc' := 96) rfl ?_
                refine fp_bipush (v := (6 : Int32)) dd_Reader_lawWord_96 (by decide) (fr_pc (pc' := 98) rfl ?_)
                refine fp_goto (tgt := 102) dd_Reader_lawWord_98 rfl ?_
                exact fr_iret (v := (6 : Int32)) rfl rfl dd_Reader_lawWord_102
            · refine fr_pc (pc' := 82) rfl ?_
              refine fp_iconst (v := (5 : Int32)) dd_Reader_lawWord_82 (by decide) (fr_pc (pc' := 83) rfl ?_)
              exact fr_iret (v := (5 : Int32)) rfl rfl dd_Reader_lawWord_83
          · refine fr_pc (pc' := 68) rfl ?_
            refine fp_iconst (v := (4 : Int32)) dd_Reader_lawWord_68 (by decide) (fr_pc (pc' := 69) rfl ?_)
            exact fr_iret (v := (4 : Int32)) rfl rfl dd_Reader_lawWord_69
        · refine fr_pc (pc' := 54) rfl ?_
          refine fp_iconst (v := (3 : Int32)) dd_Reader_lawWord_54 (by decide) (fr_pc (pc' := 55) rfl ?_)
          exact fr_iret (v := (3 : Int32)) rfl rfl dd_Reader_lawWord_55
      · refine fr_pc (pc' := 40) rfl ?_
        refine fp_iconst (v := (2 : Int32)) dd_Reader_lawWord_40 (by decide) (fr_pc (pc' := 41) rfl ?_)
        exact fr_iret (v := (2 : Int32)) rfl rfl dd_Reader_lawWord_41
    · refine fr_pc (pc' := 26) rfl ?_
      refine fp_iconst (v := (1 : Int32)) dd_Reader_lawWord_26 (by decide) (fr_pc (pc' := 27) rfl ?_)
      exact fr_iret (v := (1 : Int32)) rfl rfl dd_Reader_lawWord_27
  · refine fr_pc (pc' := 12) rfl ?_
    refine fp_iconst (v := (0 : Int32)) dd_Reader_lawWord_12 (by decide) (fr_pc (pc' := 13) rfl ?_)
    exact fr_iret (v := (0 : Int32)) rfl rfl dd_Reader_lawWord_13
theorem mt_Reader_readNumberOrWord : sf_Mt ({ cls := "SplitFares$Reader", name := "readNumberOrWord", desc := "()Z" } : Jvm.MethodName) prog_8_method_13_code 4 (some .boolean) 0 := ⟨sw_646, sw_9, ⟨by decide, by decide, by decide +kernel⟩, by decide⟩
theorem dd_Reader_readNumberOrWord_0 : decode prog_8_method_13_code 0 = .ok (.aload_n 0, 1) := by decide +kernel
theorem dd_Reader_readNumberOrWord_1 : decode prog_8_method_13_code 1 = .ok (.getfield 21, 3) := by decide +kernel
theorem dd_Reader_readNumberOrWord_4 : decode prog_8_method_13_code 4 = .ok (.invokevirtual 108, 3) := by decide +kernel
theorem dd_Reader_readNumberOrWord_7 : decode prog_8_method_13_code 7 = .ok (.istore_n 1, 1) := by decide +kernel
theorem dd_Reader_readNumberOrWord_8 : decode prog_8_method_13_code 8 = .ok (.aload_n 0, 1) := by decide +kernel
theorem dd_Reader_readNumberOrWord_9 : decode prog_8_method_13_code 9 = .ok (.getfield 25, 3) := by decide +kernel
theorem dd_Reader_readNumberOrWord_12 : decode prog_8_method_13_code 12 = .ok (.ifCond .eq 10, 3) := by decide +kernel
theorem dd_Reader_readNumberOrWord_15 : decode prog_8_method_13_code 15 = .ok (.aload_n 0, 1) := by decide +kernel
theorem dd_Reader_readNumberOrWord_16 : decode prog_8_method_13_code 16 = .ok (.invokevirtual 141, 3) := by decide +kernel
theorem dd_Reader_readNumberOrWord_19 : decode prog_8_method_13_code 19 = .ok (.goto 7, 3) := by decide +kernel
theorem dd_Reader_readNumberOrWord_22 : decode prog_8_method_13_code 22 = .ok (.aload_n 0, 1) := by decide +kernel
theorem dd_Reader_readNumberOrWord_23 : decode prog_8_method_13_code 23 = .ok (.invokevirtual 144, 3) := by decide +kernel
theorem dd_Reader_readNumberOrWord_26 : decode prog_8_method_13_code 26 = .ok (.istore_n 2, 1) := by decide +kernel
theorem dd_Reader_readNumberOrWord_27 : decode prog_8_method_13_code 27 = .ok (.aload_n 0, 1) := by decide +kernel
theorem dd_Reader_readNumberOrWord_28 : decode prog_8_method_13_code 28 = .ok (.getfield 29, 3) := by decide +kernel
theorem dd_Reader_readNumberOrWord_31 : decode prog_8_method_13_code 31 = .ok (.bipush 50, 2) := by decide +kernel
theorem dd_Reader_readNumberOrWord_33 : decode prog_8_method_13_code 33 = .ok (.if_icmp .ge 20, 3) := by decide +kernel
theorem dd_Reader_readNumberOrWord_36 : decode prog_8_method_13_code 36 = .ok (.iload_n 1, 1) := by decide +kernel
theorem dd_Reader_readNumberOrWord_37 : decode prog_8_method_13_code 37 = .ok (.sipush 1000, 3) := by decide +kernel
theorem dd_Reader_readNumberOrWord_40 : decode prog_8_method_13_code 40 = .ok (.if_icmp .gt 13, 3) := by decide +kernel
theorem dd_Reader_readNumberOrWord_43 : decode prog_8_method_13_code 43 = .ok (.iload_n 1, 1) := by decide +kernel
theorem dd_Reader_readNumberOrWord_44 : decode prog_8_method_13_code 44 = .ok (.iconst (-1), 1) := by decide +kernel
theorem dd_Reader_readNumberOrWord_45 : decode prog_8_method_13_code 45 = .ok (.if_icmp .ne 10, 3) := by decide +kernel
theorem dd_Reader_readNumberOrWord_48 : decode prog_8_method_13_code 48 = .ok (.iload_n 2, 1) := by decide +kernel
theorem dd_Reader_readNumberOrWord_49 : decode prog_8_method_13_code 49 = .ok (.iconst (-1), 1) := by decide +kernel
theorem dd_Reader_readNumberOrWord_50 : decode prog_8_method_13_code 50 = .ok (.if_icmp .ne 5, 3) := by decide +kernel
theorem dd_Reader_readNumberOrWord_55 : decode prog_8_method_13_code 55 = .ok (.aload_n 0, 1) := by decide +kernel
theorem dd_Reader_readNumberOrWord_56 : decode prog_8_method_13_code 56 = .ok (.dup, 1) := by decide +kernel
theorem dd_Reader_readNumberOrWord_57 : decode prog_8_method_13_code 57 = .ok (.getfield 29, 3) := by decide +kernel
theorem dd_Reader_readNumberOrWord_60 : decode prog_8_method_13_code 60 = .ok (.iconst 1, 1) := by decide +kernel
theorem dd_Reader_readNumberOrWord_61 : decode prog_8_method_13_code 61 = .ok (.iadd, 1) := by decide +kernel
theorem dd_Reader_readNumberOrWord_62 : decode prog_8_method_13_code 62 = .ok (.putfield 29, 3) := by decide +kernel
theorem dd_Reader_readNumberOrWord_65 : decode prog_8_method_13_code 65 = .ok (.aload_n 0, 1) := by decide +kernel
theorem dd_Reader_readNumberOrWord_66 : decode prog_8_method_13_code 66 = .ok (.getfield 21, 3) := by decide +kernel
theorem dd_Reader_readNumberOrWord_69 : decode prog_8_method_13_code 69 = .ok (.invokevirtual 57, 3) := by decide +kernel
theorem dd_Reader_readNumberOrWord_72 : decode prog_8_method_13_code 72 = .ok (.iload_n 1, 1) := by decide +kernel
theorem dd_Reader_readNumberOrWord_73 : decode prog_8_method_13_code 73 = .ok (.iconst (-1), 1) := by decide +kernel
theorem dd_Reader_readNumberOrWord_74 : decode prog_8_method_13_code 74 = .ok (.if_icmp .eq 15, 3) := by decide +kernel
theorem dd_Reader_readNumberOrWord_77 : decode prog_8_method_13_code 77 = .ok (.aload_n 0, 1) := by decide +kernel
theorem dd_Reader_readNumberOrWord_78 : decode prog_8_method_13_code 78 = .ok (.getfield 12, 3) := by decide +kernel
theorem dd_Reader_readNumberOrWord_81 : decode prog_8_method_13_code 81 = .ok (.iconst 0, 1) := by decide +kernel
theorem dd_Reader_readNumberOrWord_82 : decode prog_8_method_13_code 82 = .ok (.iload_n 1, 1) := by decide +kernel
theorem dd_Reader_readNumberOrWord_83 : decode prog_8_method_13_code 83 = .ok (.invokevirtual 119, 3) := by decide +kernel
theorem dd_Reader_readNumberOrWord_86 : decode prog_8_method_13_code 86 = .ok (.pop, 1) := by decide +kernel
theorem dd_Reader_readNumberOrWord_87 : decode prog_8_method_13_code 87 = .ok (.iconst 1, 1) := by decide +kernel
theorem dd_Reader_readNumberOrWord_88 : decode prog_8_method_13_code 88 = .ok (.ireturn, 1) := by decide +kernel
theorem dd_Reader_readNumberOrWord_89 : decode prog_8_method_13_code 89 = .ok (.aload_n 0, 1) := by decide +kernel
theorem dd_Reader_readNumberOrWord_90 : decode prog_8_method_13_code 90 = .ok (.getfield 25, 3) := by decide +kernel
theorem dd_Reader_readNumberOrWord_93 : decode prog_8_method_13_code 93 = .ok (.ifCond .eq 40, 3) := by decide +kernel
theorem dd_Reader_readNumberOrWord_96 : decode prog_8_method_13_code 96 = .ok (.iload_n 2, 1) := by decide +kernel
theorem dd_Reader_readNumberOrWord_97 : decode prog_8_method_13_code 97 = .ok (.bipush 6, 2) := by decide +kernel
theorem dd_Reader_readNumberOrWord_99 : decode prog_8_method_13_code 99 = .ok (.if_icmp .ne 34, 3) := by decide +kernel
theorem dd_Reader_readNumberOrWord_102 : decode prog_8_method_13_code 102 = .ok (.aload_n 0, 1) := by decide +kernel
theorem dd_Reader_readNumberOrWord_103 : decode prog_8_method_13_code 103 = .ok (.getfield 21, 3) := by decide +kernel
theorem dd_Reader_readNumberOrWord_106 : decode prog_8_method_13_code 106 = .ok (.invokevirtual 108, 3) := by decide +kernel
theorem dd_Reader_readNumberOrWord_109 : decode prog_8_method_13_code 109 = .ok (.istore_n 3, 1) := by decide +kernel
theorem dd_Reader_readNumberOrWord_110 : decode prog_8_method_13_code 110 = .ok (.iload_n 3, 1) := by decide +kernel
theorem dd_Reader_readNumberOrWord_111 : decode prog_8_method_13_code 111 = .ok (.ifCond .lt 9, 3) := by decide +kernel
theorem dd_Reader_readNumberOrWord_114 : decode prog_8_method_13_code 114 = .ok (.iload_n 3, 1) := by decide +kernel
theorem dd_Reader_readNumberOrWord_115 : decode prog_8_method_13_code 115 = .ok (.bipush 6, 2) := by decide +kernel
theorem dd_Reader_readNumberOrWord_117 : decode prog_8_method_13_code 117 = .ok (.if_icmp .lt 5, 3) := by decide +kernel
theorem dd_Reader_readNumberOrWord_122 : decode prog_8_method_13_code 122 = .ok (.aload_n 0, 1) := by decide +kernel
theorem dd_Reader_readNumberOrWord_123 : decode prog_8_method_13_code 123 = .ok (.getfield 21, 3) := by decide +kernel
theorem dd_Reader_readNumberOrWord_126 : decode prog_8_method_13_code 126 = .ok (.invokevirtual 57, 3) := by decide +kernel
theorem dd_Reader_readNumberOrWord_129 : decode prog_8_method_13_code 129 = .ok (.iload_n 2, 1) := by decide +kernel
theorem dd_Reader_readNumberOrWord_130 : decode prog_8_method_13_code 130 = .ok (.iload_n 3, 1) := by decide +kernel
theorem dd_Reader_readNumberOrWord_131 : decode prog_8_method_13_code 131 = .ok (.iadd, 1) := by decide +kernel
theorem dd_Reader_readNumberOrWord_132 : decode prog_8_method_13_code 132 = .ok (.istore_n 2, 1) := by decide +kernel
theorem dd_Reader_readNumberOrWord_120 : decode prog_8_method_13_code 120 = .ok (.iconst 0, 1) := by decide +kernel
theorem dd_Reader_readNumberOrWord_121 : decode prog_8_method_13_code 121 = .ok (.ireturn, 1) := by decide +kernel
theorem dd_Reader_readNumberOrWord_133 : decode prog_8_method_13_code 133 = .ok (.aload_n 0, 1) := by decide +kernel
theorem dd_Reader_readNumberOrWord_134 : decode prog_8_method_13_code 134 = .ok (.getfield 12, 3) := by decide +kernel
theorem dd_Reader_readNumberOrWord_137 : decode prog_8_method_13_code 137 = .ok (.iconst 1, 1) := by decide +kernel
theorem dd_Reader_readNumberOrWord_138 : decode prog_8_method_13_code 138 = .ok (.iload_n 2, 1) := by decide +kernel
theorem dd_Reader_readNumberOrWord_139 : decode prog_8_method_13_code 139 = .ok (.invokevirtual 119, 3) := by decide +kernel
theorem dd_Reader_readNumberOrWord_142 : decode prog_8_method_13_code 142 = .ok (.pop, 1) := by decide +kernel
theorem dd_Reader_readNumberOrWord_143 : decode prog_8_method_13_code 143 = .ok (.iconst 1, 1) := by decide +kernel
theorem dd_Reader_readNumberOrWord_144 : decode prog_8_method_13_code 144 = .ok (.ireturn, 1) := by decide +kernel
theorem dd_Reader_readNumberOrWord_53 : decode prog_8_method_13_code 53 = .ok (.iconst 0, 1) := by decide +kernel
theorem dd_Reader_readNumberOrWord_54 : decode prog_8_method_13_code 54 = .ok (.ireturn, 1) := by decide +kernel
def jx_Reader_readNumberOrWord (p0 : Option Nat) : sf_M (Int32) :=
  sf_bnd (sf_gR 7 1 p0) fun x1 =>
  sf_bnd (sf_rc 9 x1 (jx_Tokens_number x1)) fun x2 =>
  sf_bnd (sf_gI 7 2 p0) fun x3 =>
  sf_bnd (α := (Int32)) (
  if x3 = 0 then (
  sf_bnd (sf_rc 7 p0 (jx_Reader_lawWord p0)) fun x5 =>
  sf_ret x5
  ) else (
  sf_bnd (sf_rc 7 p0 (jx_Reader_orderWord p0)) fun x6 =>
  sf_ret x6
  )
  ) (fun v7 =>
  sf_bnd (sf_gI 7 3 p0) fun x8 =>
  if (50 : Int32) ≤ x8 then (
  sf_ret (0 : Int32)
  ) else (
  if (1000 : Int32) < x2 then (
  sf_ret (0 : Int32)
  ) else (
  sf_or (α := Int32) (β := (Unit)) (
  if x2 = (-1 : Int32) then (
  if v7 = (-1 : Int32) then (
  sf_ret (.inl (0 : Int32))
  ) else (
  sf_ret (.inr ())
  )
  ) else (
  sf_ret (.inr ())
  )
  ) (fun v13 =>
  sf_bnd (sf_gI 7 3 p0) fun x14 =>
  sf_bnd (sf_pI 7 3 p0 (x14 + (1 : Int32))) fun _ =>
  sf_bnd (sf_gR 7 1 p0) fun x15 =>
  sf_bnd (sf_rc 9 x15 (jx_Tokens_step x15)) fun _ =>
  if x2 = (-1 : Int32) then (
  sf_bnd (sf_gI 7 2 p0) fun x18 =>
  sf_or (α := Int32) (β := (Int32)) (
  if x18 = 0 then (
  sf_ret (.inr v7)
  ) else (
  if v7 = (6 : Int32) then (
  sf_bnd (sf_gR 7 1 p0) fun x21 =>
  sf_bnd (sf_rc 9 x21 (jx_Tokens_number x21)) fun x22 =>
  if x22 < 0 then (
  sf_ret (.inl (0 : Int32))
  ) else (
  if x22 < (6 : Int32) then (
  sf_bnd (sf_gR 7 1 p0) fun x25 =>
  sf_bnd (sf_rc 9 x25 (jx_Tokens_step x25)) fun _ =>
  sf_bnd (sf_ret ((v7 + x22))) fun y27 =>
  sf_ret (.inr y27)
  ) else (
  sf_ret (.inl (0 : Int32))
  )
  )
  ) else (
  sf_ret (.inr v7)
  )
  )
  ) (fun v28 =>
  sf_bnd (sf_gR 7 0 p0) fun x29 =>
  sf_bnd (sf_rc 6 x29 (jx_Program_put x29 (1 : Int32) v28)) fun x30 =>
  sf_ret (1 : Int32)
  )
  ) else (
  sf_bnd (sf_gR 7 0 p0) fun x31 =>
  sf_bnd (sf_rc 6 x31 (jx_Program_put x31 (0 : Int32) x2)) fun x32 =>
  sf_ret (1 : Int32)
  )
  )
  )
  )
  )
set_option maxRecDepth 20000 in
set_option maxHeartbeats 4000000 in
theorem ok_Reader_readNumberOrWord (p0 : Option Nat) : sf_Ok ({ cls := "SplitFares$Reader", name := "readNumberOrWord", desc := "()Z" } : Jvm.MethodName) prog_8_method_13_code 4 (some .boolean) 8 [sf_rv p0] (jx_Reader_readNumberOrWord p0) (fun r => some (.int r)) := by
  refine sf_Ok.of (env := [some (sf_rv p0), none, none, none]) (plainFor_of_name (by decide)) [false] (fun G => ⟨pk_r, trivial⟩) (Nat.le_of_ble_eq_true rfl) rfl (fun X => ?_)
  unfold jx_Reader_readNumberOrWord
  refine fp_aload_n (i := 0) (r := p0) dd_Reader_readNumberOrWord_0 rfl rfl (fr_pc (pc' := 1) rfl ?_)
  refine fr_gR cl_7 1 (by decide) rfl sw_301 dd_Reader_readNumberOrWord_1 (fun x1 => fr_pc (pc' := 4) rfl ?_)
  refine fr_callV (stk := []) (As := []) cl_9 (ok_Tokens_number x1) mt_Tokens_number rfl rfl sw_647 sw_648 sw_649 (by decide) (Nat.le_of_ble_eq_true rfl) dd_Reader_readNumberOrWord_4 (fun x2 => fr_to (pc' := 7) (env' := [some (sf_rv p0), none, none, none]) (stk' := [.int x2]) rfl rfl rfl ?_)
  refine fp_istore_n (i := 1) dd_Reader_readNumberOrWord_7 rfl (Nat.le_of_ble_eq_true rfl) (fun _ => c1_r rfl) (fr_to (pc' := 8) (env' := [some (sf_rv p0), some (.int x2), none, none]) (stk' := []) rfl rfl rfl ?_)
  refine fp_aload_n (i := 0) (r := p0) dd_Reader_readNumberOrWord_8 rfl rfl (fr_pc (pc' := 9) rfl ?_)
  refine fr_gI cl_7 2 (by decide) rfl sw_302 dd_Reader_readNumberOrWord_9 (fun x3 => fr_pc (pc' := 12) rfl ?_)
  refine fr_bnd (l1 := (fun (v7 : (Int32)) => sf_p 26 [some (sf_rv p0), some (.int x2), none, none] [.int v7])) ?_ (fun v7 => ?_)
  · refine fr_if_eq (tgt := 22) dd_Reader_readNumberOrWord_12 rfl (fun _ => ?_) (fun _ => ?_)
    · refine fp_aload_n (i := 0) (r := p0) dd_Reader_readNumberOrWord_22 rfl rfl (fr_pc (pc' := 23) rfl ?_)
      refine fr_callV (stk := []) (As := []) cl_7 (ok_Reader_lawWord p0) mt_Reader_lawWord rfl rfl sw_663 sw_665 sp_12 (by decide) (Nat.le_of_ble_eq_true rfl) dd_Reader_readNumberOrWord_23 (fun x5 => fr_to (pc' := 26) (env' := [some (sf_rv p0), some (.int x2), none, none]) (stk' := [.int x5]) rfl rfl rfl ?_)
      exact fr_ret rfl
    · refine fr_pc (pc' := 15) rfl ?_
      refine fp_aload_n (i := 0) (r := p0) dd_Reader_readNumberOrWord_15 rfl rfl (fr_pc (pc' := 16) rfl ?_)
      refine fr_callV (stk := []) (As := []) cl_7 (ok_Reader_orderWord p0) mt_Reader_orderWord rfl rfl sw_652 sw_654 sp_11 (by decide) (Nat.le_of_ble_eq_true rfl) dd_Reader_readNumberOrWord_16 (fun x6 => fr_to (pc' := 19) (env' := [some (sf_rv p0), some (.int x2), none, none]) (stk' := [.int x6]) rfl rfl rfl ?_)
      refine fp_goto (tgt := 26) dd_Reader_readNumberOrWord_19 rfl ?_
      exact fr_ret rfl
  · refine fp_istore_n (i := 2) dd_Reader_readNumberOrWord_26 rfl (Nat.le_of_ble_eq_true rfl) (fun _ => c1_i rfl) (fr_to (pc' := 27) (env' := [some (sf_rv p0), some (.int x2), some (.int v7), none]) (stk' := []) rfl rfl rfl ?_)
    refine fp_aload_n (i := 0) (r := p0) dd_Reader_readNumberOrWord_27 rfl rfl (fr_pc (pc' := 28) rfl ?_)
    refine fr_gI cl_7 3 (by decide) rfl sw_303 dd_Reader_readNumberOrWord_28 (fun x8 => fr_pc (pc' := 31) rfl ?_)
    refine fp_bipush (v := (50 : Int32)) dd_Reader_readNumberOrWord_31 (by decide) (fr_pc (pc' := 33) rfl ?_)
    refine fr_icmp_ge (tgt := 53) dd_Reader_readNumberOrWord_33 rfl (fun _ => ?_) (fun _ => ?_)
    · refine fp_iconst (v := (0 : Int32)) dd_Reader_readNumberOrWord_53 (by decide) (fr_pc (pc' := 54) rfl ?_)
      exact fr_zret0 (v := (0 : Int32)) (Or.inl rfl) rfl rfl dd_Reader_readNumberOrWord_54
    · refine fr_pc (pc' := 36) rfl ?_
      refine fp_iload_n (i := 1) (x := x2) dd_Reader_readNumberOrWord_36 rfl rfl (fr_pc (pc' := 37) rfl ?_)
      refine fp_sipush (v := (1000 : Int32)) dd_Reader_readNumberOrWord_37 (by decide) (fr_pc (pc' := 40) rfl ?_)
      refine fr_icmp_gt (tgt := 53) dd_Reader_readNumberOrWord_40 rfl (fun _ => ?_) (fun _ => ?_)
      · refine fp_iconst (v := (0 : Int32)) dd_Reader_readNumberOrWord_53 (by decide) (fr_pc (pc' := 54) rfl ?_)
        exact fr_zret0 (v := (0 : Int32)) (Or.inl rfl) rfl rfl dd_Reader_readNumberOrWord_54
      · refine fr_pc (pc' := 43) rfl ?_
        refine fp_iload_n (i := 1) (x := x2) dd_Reader_readNumberOrWord_43 rfl rfl (fr_pc (pc' := 44) rfl ?_)
        refine fp_iconst (v := (-1 : Int32)) dd_Reader_readNumberOrWord_44 (by decide) (fr_pc (pc' := 45) rfl ?_)
        refine fr_or (l1 := (fun (v13 : (Unit)) => sf_p 55 [some (sf_rv p0), some (.int x2), some (.int v7), none] [])) ?_ (fun v13 => ?_)
        · refine fr_icmp_ne (tgt := 55) dd_Reader_readNumberOrWord_45 rfl (fun _ => ?_) (fun _ => ?_)
          · refine fr_pc (pc' := 48) rfl ?_
            refine fp_iload_n (i := 2) (x := v7) dd_Reader_readNumberOrWord_48 rfl rfl (fr_pc (pc' := 49) rfl ?_)
            refine fp_iconst (v := (-1 : Int32)) dd_Reader_readNumberOrWord_49 (by decide) (fr_pc (pc' := 50) rfl ?_)
            refine fr_icmp_ne (tgt := 55) dd_Reader_readNumberOrWord_50 rfl (fun _ => ?_) (fun _ => ?_)
            · refine fr_pc (pc' := 53) rfl ?_
              refine fp_iconst (v := (0 : Int32)) dd_Reader_readNumberOrWord_53 (by decide) (fr_pc (pc' := 54) rfl ?_)
              exact fr_zret0 (v := (0 : Int32)) (Or.inl rfl) rfl rfl dd_Reader_readNumberOrWord_54
            · exact fr_ret rfl
          · exact fr_ret rfl
        · refine fp_aload_n (i := 0) (r := p0) dd_Reader_readNumberOrWord_55 rfl rfl (fr_pc (pc' := 56) rfl ?_)
          refine fp_dup_r dd_Reader_readNumberOrWord_56 (fr_pc (pc' := 57) rfl ?_)
          refine fr_gI cl_7 3 (by decide) rfl sw_303 dd_Reader_readNumberOrWord_57 (fun x14 => fr_pc (pc' := 60) rfl ?_)
          refine fp_iconst (v := (1 : Int32)) dd_Reader_readNumberOrWord_60 (by decide) (fr_pc (pc' := 61) rfl ?_)
          refine fp_iadd dd_Reader_readNumberOrWord_61 (fr_pc (pc' := 62) rfl ?_)
          refine fr_pI cl_7 3 (by decide) rfl sw_303 rfl ⟨rfl, rfl⟩ dd_Reader_readNumberOrWord_62 (fr_pc (pc' := 65) rfl ?_)
          refine fp_aload_n (i := 0) (r := p0) dd_Reader_readNumberOrWord_65 rfl rfl (fr_pc (pc' := 66) rfl ?_)
          refine fr_gR cl_7 1 (by decide) rfl sw_301 dd_Reader_readNumberOrWord_66 (fun x15 => fr_pc (pc' := 69) rfl ?_)
          refine fr_callV (stk := []) (As := []) cl_9 (ok_Tokens_step x15) mt_Tokens_step rfl rfl sw_612 sw_613 sw_614 (by decide) (Nat.le_of_ble_eq_true rfl) dd_Reader_readNumberOrWord_69 (fun u16 => fr_to (pc' := 72) (env' := [some (sf_rv p0), some (.int x2), some (.int v7), none]) (stk' := []) rfl rfl rfl ?_)
          refine fp_iload_n (i := 1) (x := x2) dd_Reader_readNumberOrWord_72 rfl rfl (fr_pc (pc' := 73) rfl ?_)
          refine fp_iconst (v := (-1 : Int32)) dd_Reader_readNumberOrWord_73 (by decide) (fr_pc (pc' := 74) rfl ?_)
          refine fr_icmp_eq (tgt := 89) dd_Reader_readNumberOrWord_74 rfl (fun _ => ?_) (fun _ => ?_)
          · refine fp_aload_n (i := 0) (r := p0) dd_Reader_readNumberOrWord_89 rfl rfl (fr_pc (pc' := 90) rfl ?_)
            refine fr_gI cl_7 2 (by decide) rfl sw_302 dd_Reader_readNumberOrWord_90 (fun x18 => fr_pc (pc' := 93) rfl ?_)
            refine fr_or (l1 := (fun (v28 : (Int32)) => sf_p 133 [some (sf_rv p0), some (.int x2), some (.int v28), none] [])) ?_ (fun v28 => ?_)
            · refine fr_if_eq (tgt := 133) dd_Reader_readNumberOrWord_93 rfl (fun _ => ?_) (fun _ => ?_)
              · exact fr_ret rfl
              · refine fr_pc (pc' := 96) rfl ?_
                refine fp_iload_n (i := 2) (x := v7) dd_Reader_readNumberOrWord_96 rfl rfl (fr_pc (pc' := 97) rfl ?_)
                refine fp_bipush (v := (6 : Int32)) dd_Reader_readNumberOrWord_97 (by decide) (fr_pc (pc' := 99) rfl ?_)
                refine fr_icmp_ne (tgt := 133) dd_Reader_readNumberOrWord_99 rfl (fun _ => ?_) (fun _ => ?_)
                · refine fr_pc (pc' := 102) rfl ?_
                  refine fp_aload_n (i := 0) (r := p0) dd_Reader_readNumberOrWord_102 rfl rfl (fr_pc (pc' := 103) rfl ?_)
                  refine fr_gR cl_7 1 (by decide) rfl sw_301 dd_Reader_readNumberOrWord_103 (fun x21 => fr_pc (pc' := 106) rfl ?_)
                  refine fr_callV (stk := []) (As := []) cl_9 (ok_Tokens_number x21) mt_Tokens_number rfl rfl sw_647 sw_648 sw_649 (by decide) (Nat.le_of_ble_eq_true rfl) dd_Reader_readNumberOrWord_106 (fun x22 => fr_to (pc' := 109) (env' := [some (sf_rv p0), some (.int x2), some (.int v7), none]) (stk' := [.int x22]) rfl rfl rfl ?_)
                  refine fp_istore_n (i := 3) dd_Reader_readNumberOrWord_109 rfl (Nat.le_of_ble_eq_true rfl) (fun _ => c1_i rfl) (fr_to (pc' := 110) (env' := [some (sf_rv p0), some (.int x2), some (.int v7), some (.int x22)]) (stk' := []) rfl rfl rfl ?_)
                  refine fp_iload_n (i := 3) (x := x22) dd_Reader_readNumberOrWord_110 rfl rfl (fr_pc (pc' := 111) rfl ?_)
                  refine fr_if_lt (tgt := 120) dd_Reader_readNumberOrWord_111 rfl (fun _ => ?_) (fun _ => ?_)
                  · refine fp_iconst (v := (0 : Int32)) dd_Reader_readNumberOrWord_120 (by decide) (fr_pc (pc' := 121) rfl ?_)
                    exact fr_zret0 (v := (0 : Int32)) (Or.inl rfl) rfl rfl dd_Reader_readNumberOrWord_121
                  · refine fr_pc (pc' := 114) rfl ?_
                    refine fp_iload_n (i := 3) (x := x22) dd_Reader_readNumberOrWord_114 rfl rfl (fr_pc (pc' := 115) rfl ?_)
                    refine fp_bipush (v := (6 : Int32)) dd_Reader_readNumberOrWord_115 (by decide) (fr_pc (pc' := 117) rfl ?_)
                    refine fr_icmp_lt (tgt := 122) dd_Reader_readNumberOrWord_117 rfl (fun _ => ?_) (fun _ => ?_)
                    · refine fp_aload_n (i := 0) (r := p0) dd_Reader_readNumberOrWord_122 rfl rfl (fr_pc (pc' := 123) rfl ?_)
                      refine fr_gR cl_7 1 (by decide) rfl sw_301 dd_Reader_readNumberOrWord_123 (fun x25 => fr_pc (pc' := 126) rfl ?_)
                      refine fr_callV (stk := []) (As := []) cl_9 (ok_Tokens_step x25) mt_Tokens_step rfl rfl sw_612 sw_613 sw_614 (by decide) (Nat.le_of_ble_eq_true rfl) dd_Reader_readNumberOrWord_126 (fun u26 => fr_to (pc' := 129) (env' := [some (sf_rv p0), some (.int x2), some (.int v7), some (.int x22)]) (stk' := []) rfl rfl rfl ?_)
                      refine fp_iload_n (i := 2) (x := v7) dd_Reader_readNumberOrWord_129 rfl rfl (fr_pc (pc' := 130) rfl ?_)
                      refine fp_iload_n (i := 3) (x := x22) dd_Reader_readNumberOrWord_130 rfl rfl (fr_pc (pc' := 131) rfl ?_)
                      refine fp_iadd dd_Reader_readNumberOrWord_131 (fr_pc (pc' := 132) rfl ?_)
                      refine fr_nistore_n (i := 2) dd_Reader_readNumberOrWord_132 rfl (Nat.le_of_ble_eq_true rfl) (fun _ => c1_i rfl) (fun y27 => fr_to (pc' := 133) (env' := [some (sf_rv p0), some (.int x2), some (.int y27), some (.int x22)]) (stk' := []) rfl rfl rfl ?_)
                      refine fr_wk [true, true, true, false] ?_
                      exact fr_ret rfl
                    · refine fr_pc (pc' := 120) rfl ?_
                      refine fp_iconst (v := (0 : Int32)) dd_Reader_readNumberOrWord_120 (by decide) (fr_pc (pc' := 121) rfl ?_)
                      exact fr_zret0 (v := (0 : Int32)) (Or.inl rfl) rfl rfl dd_Reader_readNumberOrWord_121
                · exact fr_ret rfl
            · refine fp_aload_n (i := 0) (r := p0) dd_Reader_readNumberOrWord_133 rfl rfl (fr_pc (pc' := 134) rfl ?_)
              refine fr_gR cl_7 0 (by decide) rfl sw_299 dd_Reader_readNumberOrWord_134 (fun x29 => fr_pc (pc' := 137) rfl ?_)
              refine fp_iconst (v := (1 : Int32)) dd_Reader_readNumberOrWord_137 (by decide) (fr_pc (pc' := 138) rfl ?_)
              refine fp_iload_n (i := 2) (x := v28) dd_Reader_readNumberOrWord_138 rfl rfl (fr_pc (pc' := 139) rfl ?_)
              refine fr_callV (stk := []) (As := [.int (1 : Int32), .int v28]) cl_6 (ok_Program_put x29 (1 : Int32) v28) mt_Program_put rfl rfl sw_639 sw_640 sw_641 (by decide) (Nat.le_of_ble_eq_true rfl) dd_Reader_readNumberOrWord_139 (fun x30 => fr_to (pc' := 142) (env' := [some (sf_rv p0), some (.int x2), some (.int v28), none]) (stk' := [.int x30]) rfl rfl rfl ?_)
              refine fp_pop_i dd_Reader_readNumberOrWord_142 (fr_pc (pc' := 143) rfl ?_)
              refine fp_iconst (v := (1 : Int32)) dd_Reader_readNumberOrWord_143 (by decide) (fr_pc (pc' := 144) rfl ?_)
              exact fr_zret0 (v := (1 : Int32)) (Or.inr rfl) rfl rfl dd_Reader_readNumberOrWord_144
          · refine fr_pc (pc' := 77) rfl ?_
            refine fp_aload_n (i := 0) (r := p0) dd_Reader_readNumberOrWord_77 rfl rfl (fr_pc (pc' := 78) rfl ?_)
            refine fr_gR cl_7 0 (by decide) rfl sw_299 dd_Reader_readNumberOrWord_78 (fun x31 => fr_pc (pc' := 81) rfl ?_)
            refine fp_iconst (v := (0 : Int32)) dd_Reader_readNumberOrWord_81 (by decide) (fr_pc (pc' := 82) rfl ?_)
            refine fp_iload_n (i := 1) (x := x2) dd_Reader_readNumberOrWord_82 rfl rfl (fr_pc (pc' := 83) rfl ?_)
            refine fr_callV (stk := []) (As := [.int (0 : Int32), .int x2]) cl_6 (ok_Program_put x31 (0 : Int32) x2) mt_Program_put rfl rfl sw_639 sw_640 sw_641 (by decide) (Nat.le_of_ble_eq_true rfl) dd_Reader_readNumberOrWord_83 (fun x32 => fr_to (pc' := 86) (env' := [some (sf_rv p0), some (.int x2), some (.int v7), none]) (stk' := [.int x32]) rfl rfl rfl ?_)
            refine fp_pop_i dd_Reader_readNumberOrWord_86 (fr_pc (pc' := 87) rfl ?_)
            refine fp_iconst (v := (1 : Int32)) dd_Reader_readNumberOrWord_87 (by decide) (fr_pc (pc' := 88) rfl ?_)
            exact fr_zret0 (v := (1 : Int32)) (Or.inr rfl) rfl rfl dd_Reader_readNumberOrWord_88
theorem mt_Reader_readSum : sf_Mt ({ cls := "SplitFares$Reader", name := "readSum", desc := "(LSplitFares$Reader;II)Z" } : Jvm.MethodName) prog_8_method_11_code 7 (some .boolean) 3 := ⟨sw_630, sw_9, ⟨by decide, by decide, by decide +kernel⟩, by decide⟩
theorem dd_Reader_readSum_0 : decode prog_8_method_11_code 0 = .ok (.aload_n 0, 1) := by decide +kernel
theorem dd_Reader_readSum_1 : decode prog_8_method_11_code 1 = .ok (.getfield 21, 3) := by decide +kernel
theorem dd_Reader_readSum_4 : decode prog_8_method_11_code 4 = .ok (.astore_n 3, 1) := by decide +kernel
theorem dd_Reader_readSum_5 : decode prog_8_method_11_code 5 = .ok (.iload_n 1, 1) := by decide +kernel
theorem dd_Reader_readSum_6 : decode prog_8_method_11_code 6 = .ok (.iconst 2, 1) := by decide +kernel
theorem dd_Reader_readSum_7 : decode prog_8_method_11_code 7 = .ok (.if_icmp .ge 83, 3) := by decide +kernel
theorem dd_Reader_readSum_10 : decode prog_8_method_11_code 10 = .ok (.aload_n 0, 1) := by decide +kernel
theorem dd_Reader_readSum_11 : decode prog_8_method_11_code 11 = .ok (.iload_n 1, 1) := by decide +kernel
theorem dd_Reader_readSum_12 : decode prog_8_method_11_code 12 = .ok (.iconst 1, 1) := by decide +kernel
theorem dd_Reader_readSum_13 : decode prog_8_method_11_code 13 = .ok (.iadd, 1) := by decide +kernel
theorem dd_Reader_readSum_14 : decode prog_8_method_11_code 14 = .ok (.iload_n 2, 1) := by decide +kernel
theorem dd_Reader_readSum_15 : decode prog_8_method_11_code 15 = .ok (.invokestatic 82, 3) := by decide +kernel
theorem dd_Reader_readSum_18 : decode prog_8_method_11_code 18 = .ok (.istore 4, 2) := by decide +kernel
theorem dd_Reader_readSum_20 : decode prog_8_method_11_code 20 = .ok (.aload_n 0, 1) := by decide +kernel
theorem dd_Reader_readSum_21 : decode prog_8_method_11_code 21 = .ok (.iload_n 1, 1) := by decide +kernel
theorem dd_Reader_readSum_22 : decode prog_8_method_11_code 22 = .ok (.invokevirtual 134, 3) := by decide +kernel
theorem dd_Reader_readSum_25 : decode prog_8_method_11_code 25 = .ok (.istore 5, 2) := by decide +kernel
theorem dd_Reader_readSum_27 : decode prog_8_method_11_code 27 = .ok (.iconst 0, 1) := by decide +kernel
theorem dd_Reader_readSum_28 : decode prog_8_method_11_code 28 = .ok (.istore 6, 2) := by decide +kernel
theorem dd_Reader_readSum_30 : decode prog_8_method_11_code 30 = .ok (.iload 6, 2) := by decide +kernel
theorem dd_Reader_readSum_32 : decode prog_8_method_11_code 32 = .ok (.sipush 400, 3) := by decide +kernel
theorem dd_Reader_readSum_35 : decode prog_8_method_11_code 35 = .ok (.if_icmp .ge 52, 3) := by decide +kernel
theorem dd_Reader_readSum_38 : decode prog_8_method_11_code 38 = .ok (.iload 4, 2) := by decide +kernel
theorem dd_Reader_readSum_40 : decode prog_8_method_11_code 40 = .ok (.ifCond .eq 47, 3) := by decide +kernel
theorem dd_Reader_readSum_43 : decode prog_8_method_11_code 43 = .ok (.iload 5, 2) := by decide +kernel
theorem dd_Reader_readSum_45 : decode prog_8_method_11_code 45 = .ok (.iconst (-1), 1) := by decide +kernel
theorem dd_Reader_readSum_46 : decode prog_8_method_11_code 46 = .ok (.if_icmp .eq 41, 3) := by decide +kernel
theorem dd_Reader_readSum_49 : decode prog_8_method_11_code 49 = .ok (.aload_n 3, 1) := by decide +kernel
theorem dd_Reader_readSum_50 : decode prog_8_method_11_code 50 = .ok (.invokevirtual 57, 3) := by decide +kernel
theorem dd_Reader_readSum_53 : decode prog_8_method_11_code 53 = .ok (.aload_n 0, 1) := by decide +kernel
theorem dd_Reader_readSum_54 : decode prog_8_method_11_code 54 = .ok (.iload_n 1, 1) := by decide +kernel
theorem dd_Reader_readSum_55 : decode prog_8_method_11_code 55 = .ok (.iconst 1, 1) := by decide +kernel
theorem dd_Reader_readSum_56 : decode prog_8_method_11_code 56 = .ok (.iadd, 1) := by decide +kernel
theorem dd_Reader_readSum_57 : decode prog_8_method_11_code 57 = .ok (.iload_n 2, 1) := by decide +kernel
theorem dd_Reader_readSum_58 : decode prog_8_method_11_code 58 = .ok (.invokestatic 82, 3) := by decide +kernel
theorem dd_Reader_readSum_61 : decode prog_8_method_11_code 61 = .ok (.istore 4, 2) := by decide +kernel
theorem dd_Reader_readSum_63 : decode prog_8_method_11_code 63 = .ok (.aload_n 0, 1) := by decide +kernel
theorem dd_Reader_readSum_64 : decode prog_8_method_11_code 64 = .ok (.getfield 12, 3) := by decide +kernel
theorem dd_Reader_readSum_67 : decode prog_8_method_11_code 67 = .ok (.iload 5, 2) := by decide +kernel
theorem dd_Reader_readSum_69 : decode prog_8_method_11_code 69 = .ok (.iconst 0, 1) := by decide +kernel
theorem dd_Reader_readSum_70 : decode prog_8_method_11_code 70 = .ok (.invokevirtual 119, 3) := by decide +kernel
theorem dd_Reader_readSum_73 : decode prog_8_method_11_code 73 = .ok (.pop, 1) := by decide +kernel
theorem dd_Reader_readSum_74 : decode prog_8_method_11_code 74 = .ok (.aload_n 0, 1) := by decide +kernel
theorem dd_Reader_readSum_75 : decode prog_8_method_11_code 75 = .ok (.iload_n 1, 1) := by decide +kernel
theorem dd_Reader_readSum_76 : decode prog_8_method_11_code 76 = .ok (.invokevirtual 134, 3) := by decide +kernel
theorem dd_Reader_readSum_79 : decode prog_8_method_11_code 79 = .ok (.istore 5, 2) := by decide +kernel
theorem dd_Reader_readSum_81 : decode prog_8_method_11_code 81 = .ok (.iinc 6 1, 3) := by decide +kernel
theorem dd_Reader_readSum_84 : decode prog_8_method_11_code 84 = .ok (.goto (-54), 3) := by decide +kernel
theorem dd_Reader_readSum_87 : decode prog_8_method_11_code 87 = .ok (.iload 4, 2) := by decide +kernel
theorem dd_Reader_readSum_89 : decode prog_8_method_11_code 89 = .ok (.ireturn, 1) := by decide +kernel
theorem dd_Reader_readSum_90 : decode prog_8_method_11_code 90 = .ok (.aload_n 3, 1) := by decide +kernel
theorem dd_Reader_readSum_91 : decode prog_8_method_11_code 91 = .ok (.bipush 91, 2) := by decide +kernel
theorem dd_Reader_readSum_93 : decode prog_8_method_11_code 93 = .ok (.invokevirtual 70, 3) := by decide +kernel
theorem dd_Reader_readSum_96 : decode prog_8_method_11_code 96 = .ok (.ifCond .ne 8, 3) := by decide +kernel
theorem dd_Reader_readSum_99 : decode prog_8_method_11_code 99 = .ok (.aload_n 0, 1) := by decide +kernel
theorem dd_Reader_readSum_100 : decode prog_8_method_11_code 100 = .ok (.invokevirtual 138, 3) := by decide +kernel
theorem dd_Reader_readSum_103 : decode prog_8_method_11_code 103 = .ok (.ireturn, 1) := by decide +kernel
theorem dd_Reader_readSum_104 : decode prog_8_method_11_code 104 = .ok (.iload_n 2, 1) := by decide +kernel
theorem dd_Reader_readSum_105 : decode prog_8_method_11_code 105 = .ok (.bipush 8, 2) := by decide +kernel
theorem dd_Reader_readSum_107 : decode prog_8_method_11_code 107 = .ok (.if_icmp .lt 5, 3) := by decide +kernel
theorem dd_Reader_readSum_110 : decode prog_8_method_11_code 110 = .ok (.iconst 0, 1) := by decide +kernel
theorem dd_Reader_readSum_111 : decode prog_8_method_11_code 111 = .ok (.ireturn, 1) := by decide +kernel
theorem dd_Reader_readSum_112 : decode prog_8_method_11_code 112 = .ok (.aload_n 3, 1) := by decide +kernel
theorem dd_Reader_readSum_113 : decode prog_8_method_11_code 113 = .ok (.invokevirtual 57, 3) := by decide +kernel
theorem dd_Reader_readSum_116 : decode prog_8_method_11_code 116 = .ok (.aload_n 0, 1) := by decide +kernel
theorem dd_Reader_readSum_117 : decode prog_8_method_11_code 117 = .ok (.iconst 0, 1) := by decide +kernel
theorem dd_Reader_readSum_118 : decode prog_8_method_11_code 118 = .ok (.iload_n 2, 1) := by decide +kernel
theorem dd_Reader_readSum_119 : decode prog_8_method_11_code 119 = .ok (.iconst 1, 1) := by decide +kernel
theorem dd_Reader_readSum_120 : decode prog_8_method_11_code 120 = .ok (.iadd, 1) := by decide +kernel
theorem dd_Reader_readSum_121 : decode prog_8_method_11_code 121 = .ok (.invokestatic 82, 3) := by decide +kernel
theorem dd_Reader_readSum_124 : decode prog_8_method_11_code 124 = .ok (.ifCond .eq 12, 3) := by decide +kernel
theorem dd_Reader_readSum_127 : decode prog_8_method_11_code 127 = .ok (.aload_n 3, 1) := by decide +kernel
theorem dd_Reader_readSum_128 : decode prog_8_method_11_code 128 = .ok (.bipush 93, 2) := by decide +kernel
theorem dd_Reader_readSum_130 : decode prog_8_method_11_code 130 = .ok (.invokevirtual 70, 3) := by decide +kernel
theorem dd_Reader_readSum_133 : decode prog_8_method_11_code 133 = .ok (.ifCond .ne 5, 3) := by decide +kernel
theorem dd_Reader_readSum_138 : decode prog_8_method_11_code 138 = .ok (.aload_n 3, 1) := by decide +kernel
theorem dd_Reader_readSum_139 : decode prog_8_method_11_code 139 = .ok (.invokevirtual 57, 3) := by decide +kernel
theorem dd_Reader_readSum_142 : decode prog_8_method_11_code 142 = .ok (.iconst 1, 1) := by decide +kernel
theorem dd_Reader_readSum_143 : decode prog_8_method_11_code 143 = .ok (.ireturn, 1) := by decide +kernel
theorem dd_Reader_readSum_136 : decode prog_8_method_11_code 136 = .ok (.iconst 0, 1) := by decide +kernel
theorem dd_Reader_readSum_137 : decode prog_8_method_11_code 137 = .ok (.ireturn, 1) := by decide +kernel
def jb_Reader_readSum (R : Nat → Option Nat → Int32 → Int32 → sf_M (Int32)) (p0 : Option Nat) (p1 : Int32) (p2 : Int32) : sf_M (Int32) :=
  sf_bnd (sf_gR 7 1 p0) fun x1 =>
  if (2 : Int32) ≤ p1 then (
  sf_bnd (sf_rc 9 x1 (jx_Tokens_isSign x1 (91 : Int32))) fun x3 =>
  if x3 = 0 then (
  sf_bnd (sf_rc 7 p0 (jx_Reader_readNumberOrWord p0)) fun x5 =>
  sf_bnd (sf_rz x5) fun x6 =>
  sf_ret x6
  ) else (
  if p2 < (8 : Int32) then (
  sf_bnd (sf_rc 9 x1 (jx_Tokens_step x1)) fun _ =>
  sf_bnd (R 0 p0 (0 : Int32) (p2 + (1 : Int32))) fun x9 =>
  if x9 = 0 then (
  sf_ret (0 : Int32)
  ) else (
  sf_bnd (sf_rc 9 x1 (jx_Tokens_isSign x1 (93 : Int32))) fun x11 =>
  if x11 = 0 then (
  sf_ret (0 : Int32)
  ) else (
  sf_bnd (sf_rc 9 x1 (jx_Tokens_step x1)) fun _ =>
  sf_ret (1 : Int32)
  )
  )
  ) else (
  sf_ret (0 : Int32)
  )
  )
  ) else (
  sf_bnd (R 0 p0 (p1 + (1 : Int32)) p2) fun x14 =>
  sf_bnd (sf_rc 7 p0 (jx_Reader_signOf p0 p1)) fun x15 =>
  sf_bnd (sf_loop (β := (Int32 × Int32 × Int32)) (γ := (Int32)) (fun b16 =>
  if (400 : Int32) ≤ b16.2.2 then (
  sf_ret (.inr b16.1)
  ) else (
  if b16.1 = 0 then (
  sf_ret (.inr b16.1)
  ) else (
  if b16.2.1 = (-1 : Int32) then (
  sf_ret (.inr b16.1)
  ) else (
  sf_bnd (sf_rc 9 x1 (jx_Tokens_step x1)) fun _ =>
  sf_bnd (R 0 p0 (p1 + (1 : Int32)) p2) fun x21 =>
  sf_bnd (sf_gR 7 0 p0) fun x22 =>
  sf_bnd (sf_rc 6 x22 (jx_Program_put x22 b16.2.1 (0 : Int32))) fun x23 =>
  sf_bnd (sf_rc 7 p0 (jx_Reader_signOf p0 p1)) fun x24 =>
  sf_bnd (sf_ret (b16.2.2 + (1 : Int32))) fun y25 =>
  sf_ret (.inl (x21, x24, y25))
  )
  )
  )
  ) sf_fuel (x14, x15, (0 : Int32))) (fun e26 =>
  sf_bnd (sf_rz e26) fun x27 =>
  sf_ret x27
  )
  )
set_option maxRecDepth 20000 in
set_option maxHeartbeats 4000000 in
theorem okb_Reader_readSum (n : Nat) (R : Nat → Option Nat → Int32 → Int32 → sf_M (Int32)) (hR_Reader_readSum : ∀ (a0 : Option Nat) (a1 : Int32) (a2 : Int32), sf_Ok ({ cls := "SplitFares$Reader", name := "readSum", desc := "(LSplitFares$Reader;II)Z" } : Jvm.MethodName) prog_8_method_11_code 7 (some .boolean) (9 + n) [sf_rv a0, .int a1, .int a2] (R 0 a0 a1 a2) (fun r => some (.int r))) (p0 : Option Nat) (p1 : Int32) (p2 : Int32) : sf_Ok ({ cls := "SplitFares$Reader", name := "readSum", desc := "(LSplitFares$Reader;II)Z" } : Jvm.MethodName) prog_8_method_11_code 7 (some .boolean) (9 + n + 1) [sf_rv p0, .int p1, .int p2] (jb_Reader_readSum R p0 p1 p2) (fun r => some (.int r)) := by
  refine sf_Ok.of (env := [some (sf_rv p0), some (.int p1), some (.int p2), none, none, none, none]) (plainFor_of_name (by decide)) [false, false, false] (fun G => ⟨pk_r, pk_i, pk_i, trivial⟩) (Nat.le_of_ble_eq_true rfl) rfl (fun X => ?_)
  unfold jb_Reader_readSum
  refine fp_aload_n (i := 0) (r := p0) dd_Reader_readSum_0 rfl rfl (fr_pc (pc' := 1) rfl ?_)
  refine fr_gR cl_7 1 (by decide) rfl sw_301 dd_Reader_readSum_1 (fun x1 => fr_pc (pc' := 4) rfl ?_)
  refine fp_astore_n (i := 3) dd_Reader_readSum_4 rfl (Nat.le_of_ble_eq_true rfl) (fun _ => c1_i rfl) (fr_to (pc' := 5) (env' := [some (sf_rv p0), some (.int p1), some (.int p2), some (sf_rv x1), none, none, none]) (stk' := []) rfl rfl rfl ?_)
  refine fp_iload_n (i := 1) (x := p1) dd_Reader_readSum_5 rfl rfl (fr_pc (pc' := 6) rfl ?_)
  refine fp_iconst (v := (2 : Int32)) dd_Reader_readSum_6 (by decide) (fr_pc (pc' := 7) rfl ?_)
  refine fr_icmp_ge (tgt := 90) dd_Reader_readSum_7 rfl (fun _ => ?_) (fun _ => ?_)
  · refine fp_aload_n (i := 3) (r := x1) dd_Reader_readSum_90 rfl rfl (fr_pc (pc' := 91) rfl ?_)
    refine fp_bipush (v := (91 : Int32)) dd_Reader_readSum_91 (by decide) (fr_pc (pc' := 93) rfl ?_)
    refine fr_callV (stk := []) (As := [.int (91 : Int32)]) cl_9 (ok_Tokens_isSign x1 (91 : Int32)) mt_Tokens_isSign rfl rfl sw_635 sw_636 sw_637 (by dsimp only [sf_deep]; omega) (Nat.le_of_ble_eq_true rfl) dd_Reader_readSum_93 (fun x3 => fr_to (pc' := 96) (env' := [some (sf_rv p0), some (.int p1), some (.int p2), some (sf_rv x1), none, none, none]) (stk' := [.int x3]) rfl rfl rfl ?_)
    refine fr_if_ne (tgt := 104) dd_Reader_readSum_96 rfl (fun _ => ?_) (fun _ => ?_)
    · refine fr_pc (pc' := 99) rfl ?_
      refine fp_aload_n (i := 0) (r := p0) dd_Reader_readSum_99 rfl rfl (fr_pc (pc' := 100) rfl ?_)
      refine fr_callV (stk := []) (As := []) cl_7 (ok_Reader_readNumberOrWord p0) mt_Reader_readNumberOrWord rfl rfl sw_643 sw_645 sp_10 (by dsimp only [sf_deep]; omega) (Nat.le_of_ble_eq_true rfl) dd_Reader_readSum_100 (fun x5 => fr_to (pc' := 103) (env' := [some (sf_rv p0), some (.int p1), some (.int p2), some (sf_rv x1), none, none, none]) (stk' := [.int x5]) rfl rfl rfl ?_)
      exact fr_zret (r := fun x6 => x6) (fun _ => rfl) rfl dd_Reader_readSum_103
    · refine fp_iload_n (i := 2) (x := p2) dd_Reader_readSum_104 rfl rfl (fr_pc (pc' := 105) rfl ?_)
      refine fp_bipush (v := (8 : Int32)) dd_Reader_readSum_105 (by decide) (fr_pc (pc' := 107) rfl ?_)
      refine fr_icmp_lt (tgt := 112) dd_Reader_readSum_107 rfl (fun _ => ?_) (fun _ => ?_)
      · refine fp_aload_n (i := 3) (r := x1) dd_Reader_readSum_112 rfl rfl (fr_pc (pc' := 113) rfl ?_)
        refine fr_callV (stk := []) (As := []) cl_9 (ok_Tokens_step x1) mt_Tokens_step rfl rfl sw_612 sw_613 sw_614 (by dsimp only [sf_deep]; omega) (Nat.le_of_ble_eq_true rfl) dd_Reader_readSum_113 (fun u8 => fr_to (pc' := 116) (env' := [some (sf_rv p0), some (.int p1), some (.int p2), some (sf_rv x1), none, none, none]) (stk' := []) rfl rfl rfl ?_)
        refine fp_aload_n (i := 0) (r := p0) dd_Reader_readSum_116 rfl rfl (fr_pc (pc' := 117) rfl ?_)
        refine fp_iconst (v := (0 : Int32)) dd_Reader_readSum_117 (by decide) (fr_pc (pc' := 118) rfl ?_)
        refine fp_iload_n (i := 2) (x := p2) dd_Reader_readSum_118 rfl rfl (fr_pc (pc' := 119) rfl ?_)
        refine fp_iconst (v := (1 : Int32)) dd_Reader_readSum_119 (by decide) (fr_pc (pc' := 120) rfl ?_)
        refine fp_iadd dd_Reader_readSum_120 (fr_pc (pc' := 121) rfl ?_)
        refine fr_callS (stk := []) (hR_Reader_readSum p0 (0 : Int32) (p2 + (1 : Int32))) mt_Reader_readSum rfl rfl sw_628 sw_629 (by dsimp only [sf_deep]; omega) (Nat.le_of_ble_eq_true rfl) dd_Reader_readSum_121 (fun x9 => fr_to (pc' := 124) (env' := [some (sf_rv p0), some (.int p1), some (.int p2), some (sf_rv x1), none, none, none]) (stk' := [.int x9]) rfl rfl rfl ?_)
        refine fr_if_eq (tgt := 136) dd_Reader_readSum_124 rfl (fun _ => ?_) (fun _ => ?_)
        · refine fp_iconst (v := (0 : Int32)) dd_Reader_readSum_136 (by decide) (fr_pc (pc' := 137) rfl ?_)
          exact fr_zret0 (v := (0 : Int32)) (Or.inl rfl) rfl rfl dd_Reader_readSum_137
        · refine fr_pc (pc' := 127) rfl ?_
          refine fp_aload_n (i := 3) (r := x1) dd_Reader_readSum_127 rfl rfl (fr_pc (pc' := 128) rfl ?_)
          refine fp_bipush (v := (93 : Int32)) dd_Reader_readSum_128 (by decide) (fr_pc (pc' := 130) rfl ?_)
          refine fr_callV (stk := []) (As := [.int (93 : Int32)]) cl_9 (ok_Tokens_isSign x1 (93 : Int32)) mt_Tokens_isSign rfl rfl sw_635 sw_636 sw_637 (by dsimp only [sf_deep]; omega) (Nat.le_of_ble_eq_true rfl) dd_Reader_readSum_130 (fun x11 => fr_to (pc' := 133) (env' := [some (sf_rv p0), some (.int p1), some (.int p2), some (sf_rv x1), none, none, none]) (stk' := [.int x11]) rfl rfl rfl ?_)
          refine fr_if_ne (tgt := 138) dd_Reader_readSum_133 rfl (fun _ => ?_) (fun _ => ?_)
          · refine fr_pc (pc' := 136) rfl ?_
            refine fp_iconst (v := (0 : Int32)) dd_Reader_readSum_136 (by decide) (fr_pc (pc' := 137) rfl ?_)
            exact fr_zret0 (v := (0 : Int32)) (Or.inl rfl) rfl rfl dd_Reader_readSum_137
          · refine fp_aload_n (i := 3) (r := x1) dd_Reader_readSum_138 rfl rfl (fr_pc (pc' := 139) rfl ?_)
            refine fr_callV (stk := []) (As := []) cl_9 (ok_Tokens_step x1) mt_Tokens_step rfl rfl sw_612 sw_613 sw_614 (by dsimp only [sf_deep]; omega) (Nat.le_of_ble_eq_true rfl) dd_Reader_readSum_139 (fun u13 => fr_to (pc' := 142) (env' := [some (sf_rv p0), some (.int p1), some (.int p2), some (sf_rv x1), none, none, none]) (stk' := []) rfl rfl rfl ?_)
            refine fp_iconst (v := (1 : Int32)) dd_Reader_readSum_142 (by decide) (fr_pc (pc' := 143) rfl ?_)
            exact fr_zret0 (v := (1 : Int32)) (Or.inr rfl) rfl rfl dd_Reader_readSum_143
      · refine fr_pc (pc' := 110) rfl ?_
        refine fp_iconst (v := (0 : Int32)) dd_Reader_readSum_110 (by decide) (fr_pc (pc' := 111) rfl ?_)
        exact fr_zret0 (v := (0 : Int32)) (Or.inl rfl) rfl rfl dd_Reader_readSum_111
  · refine fr_pc (pc' := 10) rfl ?_
    refine fp_aload_n (i := 0) (r := p0) dd_Reader_readSum_10 rfl rfl (fr_pc (pc' := 11) rfl ?_)
    refine fp_iload_n (i := 1) (x := p1) dd_Reader_readSum_11 rfl rfl (fr_pc (pc' := 12) rfl ?_)
    refine fp_iconst (v := (1 : Int32)) dd_Reader_readSum_12 (by decide) (fr_pc (pc' := 13) rfl ?_)
    refine fp_iadd dd_Reader_readSum_13 (fr_pc (pc' := 14) rfl ?_)
    refine fp_iload_n (i := 2) (x := p2) dd_Reader_readSum_14 rfl rfl (fr_pc (pc' := 15) rfl ?_)
    refine fr_callS (stk := []) (hR_Reader_readSum p0 (p1 + (1 : Int32)) p2) mt_Reader_readSum rfl rfl sw_628 sw_629 (by dsimp only [sf_deep]; omega) (Nat.le_of_ble_eq_true rfl) dd_Reader_readSum_15 (fun x14 => fr_to (pc' := 18) (env' := [some (sf_rv p0), some (.int p1), some (.int p2), some (sf_rv x1), none, none, none]) (stk' := [.int x14]) rfl rfl rfl ?_)
    refine fp_istore (i := 4) dd_Reader_readSum_18 (Nat.le_of_ble_eq_true rfl) (fun _ => c1_r rfl) (fr_to (pc' := 20) (env' := [some (sf_rv p0), some (.int p1), some (.int p2), some (sf_rv x1), some (.int x14), none, none]) (stk' := []) rfl rfl rfl ?_)
    refine fp_aload_n (i := 0) (r := p0) dd_Reader_readSum_20 rfl rfl (fr_pc (pc' := 21) rfl ?_)
    refine fp_iload_n (i := 1) (x := p1) dd_Reader_readSum_21 rfl rfl (fr_pc (pc' := 22) rfl ?_)
    refine fr_callV (stk := []) (As := [.int p1]) cl_7 (ok_Reader_signOf p0 p1) mt_Reader_signOf rfl rfl sw_631 sw_633 sp_9 (by dsimp only [sf_deep]; omega) (Nat.le_of_ble_eq_true rfl) dd_Reader_readSum_22 (fun x15 => fr_to (pc' := 25) (env' := [some (sf_rv p0), some (.int p1), some (.int p2), some (sf_rv x1), some (.int x14), none, none]) (stk' := [.int x15]) rfl rfl rfl ?_)
    refine fp_istore (i := 5) dd_Reader_readSum_25 (Nat.le_of_ble_eq_true rfl) (fun _ => c1_i rfl) (fr_to (pc' := 27) (env' := [some (sf_rv p0), some (.int p1), some (.int p2), some (sf_rv x1), some (.int x14), some (.int x15), none]) (stk' := []) rfl rfl rfl ?_)
    refine fp_iconst (v := (0 : Int32)) dd_Reader_readSum_27 (by decide) (fr_pc (pc' := 28) rfl ?_)
    refine fp_istore (i := 6) dd_Reader_readSum_28 (Nat.le_of_ble_eq_true rfl) (fun _ => c1_i rfl) (fr_to (pc' := 30) (env' := [some (sf_rv p0), some (.int p1), some (.int p2), some (sf_rv x1), some (.int x14), some (.int x15), some (.int (0 : Int32))]) (stk' := []) rfl rfl rfl ?_)
    refine fr_to (pc' := 30) (env' := [some (sf_rv p0), some (.int p1), some (.int p2), some (sf_rv x1), some (.int x14), some (.int x15), some (.int (0 : Int32))]) (stk' := []) rfl rfl rfl ?_
    refine fr_bnd (l1 := (fun (e26 : (Int32)) => sf_p 87 [some (sf_rv p0), some (.int p1), some (.int p2), some (sf_rv x1), some (.int e26), none, none] [])) (fr_loop (Lb := (fun (b16 : (Int32 × Int32 × Int32)) => sf_p 30 [some (sf_rv p0), some (.int p1), some (.int p2), some (sf_rv x1), some (.int b16.1), some (.int b16.2.1), some (.int b16.2.2)] [])) (fun b16 => ?_) _ _) (fun e26 => ?_)
    · refine fp_iload (i := 6) (x := b16.2.2) dd_Reader_readSum_30 rfl (fr_pc (pc' := 32) rfl ?_)
      refine fp_sipush (v := (400 : Int32)) dd_Reader_readSum_32 (by decide) (fr_pc (pc' := 35) rfl ?_)
      refine fr_icmp_ge (tgt := 87) dd_Reader_readSum_35 rfl (fun _ => ?_) (fun _ => ?_)
      · refine fr_wk [true, true, true, true, true, false, false] ?_
        exact fr_ret rfl
      · refine fr_pc (pc' := 38) rfl ?_
        refine fp_iload (i := 4) (x := b16.1) dd_Reader_readSum_38 rfl (fr_pc (pc' := 40) rfl ?_)
        refine fr_if_eq (tgt := 87) dd_Reader_readSum_40 rfl (fun _ => ?_) (fun _ => ?_)
        · refine fr_wk [true, true, true, true, true, false, false] ?_
          exact fr_ret rfl
        · refine fr_pc (pc' := 43) rfl ?_
          refine fp_iload (i := 5) (x := b16.2.1) dd_Reader_readSum_43 rfl (fr_pc (pc' := 45) rfl ?_)
          refine fp_iconst (v := (-1 : Int32)) dd_Reader_readSum_45 (by decide) (fr_pc (pc' := 46) rfl ?_)
          refine fr_icmp_eq (tgt := 87) dd_Reader_readSum_46 rfl (fun _ => ?_) (fun _ => ?_)
          · refine fr_wk [true, true, true, true, true, false, false] ?_
            exact fr_ret rfl
          · refine fr_pc (pc' := 49) rfl ?_
            refine fp_aload_n (i := 3) (r := x1) dd_Reader_readSum_49 rfl rfl (fr_pc (pc' := 50) rfl ?_)
            refine fr_callV (stk := []) (As := []) cl_9 (ok_Tokens_step x1) mt_Tokens_step rfl rfl sw_612 sw_613 sw_614 (by dsimp only [sf_deep]; omega) (Nat.le_of_ble_eq_true rfl) dd_Reader_readSum_50 (fun u20 => fr_to (pc' := 53) (env' := [some (sf_rv p0), some (.int p1), some (.int p2), some (sf_rv x1), some (.int b16.1), some (.int b16.2.1), some (.int b16.2.2)]) (stk' := []) rfl rfl rfl ?_)
            refine fp_aload_n (i := 0) (r := p0) dd_Reader_readSum_53 rfl rfl (fr_pc (pc' := 54) rfl ?_)
            refine fp_iload_n (i := 1) (x := p1) dd_Reader_readSum_54 rfl rfl (fr_pc (pc' := 55) rfl ?_)
            refine fp_iconst (v := (1 : Int32)) dd_Reader_readSum_55 (by decide) (fr_pc (pc' := 56) rfl ?_)
            refine fp_iadd dd_Reader_readSum_56 (fr_pc (pc' := 57) rfl ?_)
            refine fp_iload_n (i := 2) (x := p2) dd_Reader_readSum_57 rfl rfl (fr_pc (pc' := 58) rfl ?_)
            refine fr_callS (stk := []) (hR_Reader_readSum p0 (p1 + (1 : Int32)) p2) mt_Reader_readSum rfl rfl sw_628 sw_629 (by dsimp only [sf_deep]; omega) (Nat.le_of_ble_eq_true rfl) dd_Reader_readSum_58 (fun x21 => fr_to (pc' := 61) (env' := [some (sf_rv p0), some (.int p1), some (.int p2), some (sf_rv x1), some (.int b16.1), some (.int b16.2.1), some (.int b16.2.2)]) (stk' := [.int x21]) rfl rfl rfl ?_)
            refine fp_istore (i := 4) dd_Reader_readSum_61 (Nat.le_of_ble_eq_true rfl) (fun _ => c1_r rfl) (fr_to (pc' := 63) (env' := [some (sf_rv p0), some (.int p1), some (.int p2), some (sf_rv x1), some (.int x21), some (.int b16.2.1), some (.int b16.2.2)]) (stk' := []) rfl rfl rfl ?_)
            refine fp_aload_n (i := 0) (r := p0) dd_Reader_readSum_63 rfl rfl (fr_pc (pc' := 64) rfl ?_)
            refine fr_gR cl_7 0 (by decide) rfl sw_299 dd_Reader_readSum_64 (fun x22 => fr_pc (pc' := 67) rfl ?_)
            refine fp_iload (i := 5) (x := b16.2.1) dd_Reader_readSum_67 rfl (fr_pc (pc' := 69) rfl ?_)
            refine fp_iconst (v := (0 : Int32)) dd_Reader_readSum_69 (by decide) (fr_pc (pc' := 70) rfl ?_)
            refine fr_callV (stk := []) (As := [.int b16.2.1, .int (0 : Int32)]) cl_6 (ok_Program_put x22 b16.2.1 (0 : Int32)) mt_Program_put rfl rfl sw_639 sw_640 sw_641 (by dsimp only [sf_deep]; omega) (Nat.le_of_ble_eq_true rfl) dd_Reader_readSum_70 (fun x23 => fr_to (pc' := 73) (env' := [some (sf_rv p0), some (.int p1), some (.int p2), some (sf_rv x1), some (.int x21), some (.int b16.2.1), some (.int b16.2.2)]) (stk' := [.int x23]) rfl rfl rfl ?_)
            refine fp_pop_i dd_Reader_readSum_73 (fr_pc (pc' := 74) rfl ?_)
            refine fp_aload_n (i := 0) (r := p0) dd_Reader_readSum_74 rfl rfl (fr_pc (pc' := 75) rfl ?_)
            refine fp_iload_n (i := 1) (x := p1) dd_Reader_readSum_75 rfl rfl (fr_pc (pc' := 76) rfl ?_)
            refine fr_callV (stk := []) (As := [.int p1]) cl_7 (ok_Reader_signOf p0 p1) mt_Reader_signOf rfl rfl sw_631 sw_633 sp_9 (by dsimp only [sf_deep]; omega) (Nat.le_of_ble_eq_true rfl) dd_Reader_readSum_76 (fun x24 => fr_to (pc' := 79) (env' := [some (sf_rv p0), some (.int p1), some (.int p2), some (sf_rv x1), some (.int x21), some (.int b16.2.1), some (.int b16.2.2)]) (stk' := [.int x24]) rfl rfl rfl ?_)
            refine fp_istore (i := 5) dd_Reader_readSum_79 (Nat.le_of_ble_eq_true rfl) (fun _ => c1_i rfl) (fr_to (pc' := 81) (env' := [some (sf_rv p0), some (.int p1), some (.int p2), some (sf_rv x1), some (.int x21), some (.int x24), some (.int b16.2.2)]) (stk' := []) rfl rfl rfl ?_)
            refine fr_niinc (i := 6) (x := b16.2.2) (w := (1 : Int32)) dd_Reader_readSum_81 rfl (by decide) (Nat.le_of_ble_eq_true rfl) (fun _ => c1_i rfl) (fun y25 => fr_to (pc' := 84) (env' := [some (sf_rv p0), some (.int p1), some (.int p2), some (sf_rv x1), some (.int x21), some (.int x24), some (.int y25)]) (stk' := []) rfl rfl rfl ?_)
            refine fp_goto (tgt := 30) dd_Reader_readSum_84 rfl ?_
            exact fr_ret rfl
    · refine fp_iload (i := 4) (x := e26) dd_Reader_readSum_87 rfl (fr_pc (pc' := 89) rfl ?_)
      exact fr_zret (r := fun x27 => x27) (fun _ => rfl) rfl dd_Reader_readSum_89
def jx_G0 : Nat → Nat → Option Nat → Int32 → Int32 → sf_M (Int32)
  | 0, _, _, _, _ => sf_nil
  | n + 1, t, a0, a1, a2 => jb_Reader_readSum (jx_G0 n) a0 a1 a2
theorem okG_0 : ∀ (n : Nat) (a0 : Option Nat) (a1 : Int32) (a2 : Int32), (sf_Ok ({ cls := "SplitFares$Reader", name := "readSum", desc := "(LSplitFares$Reader;II)Z" } : Jvm.MethodName) prog_8_method_11_code 7 (some .boolean) (9 + n) [sf_rv a0, .int a1, .int a2] (jx_G0 n 0 a0 a1 a2) (fun r => some (.int r)))
  | 0, _, _, _ => sf_Ok.nil
  | n + 1, a0, a1, a2 => okb_Reader_readSum n (jx_G0 n) (fun b0 b1 b2 => (okG_0 n b0 b1 b2)) a0 a1 a2
theorem ok_Reader_readSum (n : Nat) (a0 : Option Nat) (a1 : Int32) (a2 : Int32) : sf_Ok ({ cls := "SplitFares$Reader", name := "readSum", desc := "(LSplitFares$Reader;II)Z" } : Jvm.MethodName) prog_8_method_11_code 7 (some .boolean) (9 + n) [sf_rv a0, .int a1, .int a2] (jx_G0 n 0 a0 a1 a2) (fun r => some (.int r)) := (okG_0 n a0 a1 a2)
theorem mt_Reader_readTimes : sf_Mt ({ cls := "SplitFares$Reader", name := "readTimes", desc := "()Z" } : Jvm.MethodName) prog_8_method_7_code 2 (some .boolean) 0 := ⟨sw_676, sw_9, ⟨by decide, by decide, by decide +kernel⟩, by decide⟩
theorem dd_Reader_readTimes_0 : decode prog_8_method_7_code 0 = .ok (.aload_n 0, 1) := by decide +kernel
theorem dd_Reader_readTimes_1 : decode prog_8_method_7_code 1 = .ok (.getfield 21, 3) := by decide +kernel
theorem dd_Reader_readTimes_4 : decode prog_8_method_7_code 4 = .ok (.ldc 106, 2) := by decide +kernel
theorem dd_Reader_readTimes_6 : decode prog_8_method_7_code 6 = .ok (.invokevirtual 53, 3) := by decide +kernel
theorem dd_Reader_readTimes_9 : decode prog_8_method_7_code 9 = .ok (.ifCond .ne 5, 3) := by decide +kernel
theorem dd_Reader_readTimes_12 : decode prog_8_method_7_code 12 = .ok (.iconst 1, 1) := by decide +kernel
theorem dd_Reader_readTimes_13 : decode prog_8_method_7_code 13 = .ok (.ireturn, 1) := by decide +kernel
theorem dd_Reader_readTimes_14 : decode prog_8_method_7_code 14 = .ok (.aload_n 0, 1) := by decide +kernel
theorem dd_Reader_readTimes_15 : decode prog_8_method_7_code 15 = .ok (.getfield 21, 3) := by decide +kernel
theorem dd_Reader_readTimes_18 : decode prog_8_method_7_code 18 = .ok (.invokevirtual 57, 3) := by decide +kernel
theorem dd_Reader_readTimes_21 : decode prog_8_method_7_code 21 = .ok (.aload_n 0, 1) := by decide +kernel
theorem dd_Reader_readTimes_22 : decode prog_8_method_7_code 22 = .ok (.getfield 21, 3) := by decide +kernel
theorem dd_Reader_readTimes_25 : decode prog_8_method_7_code 25 = .ok (.invokevirtual 108, 3) := by decide +kernel
theorem dd_Reader_readTimes_28 : decode prog_8_method_7_code 28 = .ok (.istore_n 1, 1) := by decide +kernel
theorem dd_Reader_readTimes_29 : decode prog_8_method_7_code 29 = .ok (.iload_n 1, 1) := by decide +kernel
theorem dd_Reader_readTimes_30 : decode prog_8_method_7_code 30 = .ok (.iconst 1, 1) := by decide +kernel
theorem dd_Reader_readTimes_31 : decode prog_8_method_7_code 31 = .ok (.if_icmp .lt 9, 3) := by decide +kernel
theorem dd_Reader_readTimes_34 : decode prog_8_method_7_code 34 = .ok (.iload_n 1, 1) := by decide +kernel
theorem dd_Reader_readTimes_35 : decode prog_8_method_7_code 35 = .ok (.bipush 20, 2) := by decide +kernel
theorem dd_Reader_readTimes_37 : decode prog_8_method_7_code 37 = .ok (.if_icmp .le 5, 3) := by decide +kernel
theorem dd_Reader_readTimes_42 : decode prog_8_method_7_code 42 = .ok (.aload_n 0, 1) := by decide +kernel
theorem dd_Reader_readTimes_43 : decode prog_8_method_7_code 43 = .ok (.getfield 12, 3) := by decide +kernel
theorem dd_Reader_readTimes_46 : decode prog_8_method_7_code 46 = .ok (.iconst 1, 1) := by decide +kernel
theorem dd_Reader_readTimes_47 : decode prog_8_method_7_code 47 = .ok (.iload_n 1, 1) := by decide +kernel
theorem dd_Reader_readTimes_48 : decode prog_8_method_7_code 48 = .ok (.invokevirtual 111, 3) := by decide +kernel
theorem dd_Reader_readTimes_51 : decode prog_8_method_7_code 51 = .ok (.aload_n 0, 1) := by decide +kernel
theorem dd_Reader_readTimes_52 : decode prog_8_method_7_code 52 = .ok (.getfield 21, 3) := by decide +kernel
theorem dd_Reader_readTimes_55 : decode prog_8_method_7_code 55 = .ok (.invokevirtual 57, 3) := by decide +kernel
theorem dd_Reader_readTimes_58 : decode prog_8_method_7_code 58 = .ok (.iconst 1, 1) := by decide +kernel
theorem dd_Reader_readTimes_59 : decode prog_8_method_7_code 59 = .ok (.ireturn, 1) := by decide +kernel
theorem dd_Reader_readTimes_40 : decode prog_8_method_7_code 40 = .ok (.iconst 0, 1) := by decide +kernel
theorem dd_Reader_readTimes_41 : decode prog_8_method_7_code 41 = .ok (.ireturn, 1) := by decide +kernel
def jx_Reader_readTimes (p0 : Option Nat) : sf_M (Int32) :=
  sf_bnd (sf_gR 7 1 p0) fun x1 =>
  sf_bnd (sf_rc 9 x1 (jx_Tokens_isWord x1 (UInt32.ofNat 17))) fun x2 =>
  if x2 = 0 then (
  sf_ret (1 : Int32)
  ) else (
  sf_bnd (sf_gR 7 1 p0) fun x4 =>
  sf_bnd (sf_rc 9 x4 (jx_Tokens_step x4)) fun _ =>
  sf_bnd (sf_gR 7 1 p0) fun x6 =>
  sf_bnd (sf_rc 9 x6 (jx_Tokens_number x6)) fun x7 =>
  if x7 < (1 : Int32) then (
  sf_ret (0 : Int32)
  ) else (
  if x7 ≤ (20 : Int32) then (
  sf_bnd (sf_gR 7 0 p0) fun x10 =>
  sf_bnd (sf_rc 6 x10 (jx_Program_note x10 (1 : Int32) x7)) fun _ =>
  sf_bnd (sf_gR 7 1 p0) fun x12 =>
  sf_bnd (sf_rc 9 x12 (jx_Tokens_step x12)) fun _ =>
  sf_ret (1 : Int32)
  ) else (
  sf_ret (0 : Int32)
  )
  )
  )
set_option maxRecDepth 20000 in
set_option maxHeartbeats 4000000 in
theorem ok_Reader_readTimes (p0 : Option Nat) : sf_Ok ({ cls := "SplitFares$Reader", name := "readTimes", desc := "()Z" } : Jvm.MethodName) prog_8_method_7_code 2 (some .boolean) 7 [sf_rv p0] (jx_Reader_readTimes p0) (fun r => some (.int r)) := by
  refine sf_Ok.of (env := [some (sf_rv p0), none]) (plainFor_of_name (by decide)) [false] (fun G => ⟨pk_r, trivial⟩) (Nat.le_of_ble_eq_true rfl) rfl (fun X => ?_)
  unfold jx_Reader_readTimes
  refine fp_aload_n (i := 0) (r := p0) dd_Reader_readTimes_0 rfl rfl (fr_pc (pc' := 1) rfl ?_)
  refine fr_gR cl_7 1 (by decide) rfl sw_301 dd_Reader_readTimes_1 (fun x1 => fr_pc (pc' := 4) rfl ?_)
  refine fp_ldcS (i := 17) rfl (by decide) rfl rfl dd_Reader_readTimes_4 (fr_pc (pc' := 6) rfl ?_)
  refine fr_callV (stk := []) (As := [.float (UInt32.ofNat 17)]) cl_9 (ok_Tokens_isWord x1 (UInt32.ofNat 17)) mt_Tokens_isWord rfl rfl sw_552 sw_553 sw_554 (by decide) (Nat.le_of_ble_eq_true rfl) dd_Reader_readTimes_6 (fun x2 => fr_to (pc' := 9) (env' := [some (sf_rv p0), none]) (stk' := [.int x2]) rfl rfl rfl ?_)
  refine fr_if_ne (tgt := 14) dd_Reader_readTimes_9 rfl (fun _ => ?_) (fun _ => ?_)
  · refine fr_pc (pc' := 12) rfl ?_
    refine fp_iconst (v := (1 : Int32)) dd_Reader_readTimes_12 (by decide) (fr_pc (pc' := 13) rfl ?_)
    exact fr_zret0 (v := (1 : Int32)) (Or.inr rfl) rfl rfl dd_Reader_readTimes_13
  · refine fp_aload_n (i := 0) (r := p0) dd_Reader_readTimes_14 rfl rfl (fr_pc (pc' := 15) rfl ?_)
    refine fr_gR cl_7 1 (by decide) rfl sw_301 dd_Reader_readTimes_15 (fun x4 => fr_pc (pc' := 18) rfl ?_)
    refine fr_callV (stk := []) (As := []) cl_9 (ok_Tokens_step x4) mt_Tokens_step rfl rfl sw_612 sw_613 sw_614 (by decide) (Nat.le_of_ble_eq_true rfl) dd_Reader_readTimes_18 (fun u5 => fr_to (pc' := 21) (env' := [some (sf_rv p0), none]) (stk' := []) rfl rfl rfl ?_)
    refine fp_aload_n (i := 0) (r := p0) dd_Reader_readTimes_21 rfl rfl (fr_pc (pc' := 22) rfl ?_)
    refine fr_gR cl_7 1 (by decide) rfl sw_301 dd_Reader_readTimes_22 (fun x6 => fr_pc (pc' := 25) rfl ?_)
    refine fr_callV (stk := []) (As := []) cl_9 (ok_Tokens_number x6) mt_Tokens_number rfl rfl sw_647 sw_648 sw_649 (by decide) (Nat.le_of_ble_eq_true rfl) dd_Reader_readTimes_25 (fun x7 => fr_to (pc' := 28) (env' := [some (sf_rv p0), none]) (stk' := [.int x7]) rfl rfl rfl ?_)
    refine fp_istore_n (i := 1) dd_Reader_readTimes_28 rfl (Nat.le_of_ble_eq_true rfl) (fun _ => c1_r rfl) (fr_to (pc' := 29) (env' := [some (sf_rv p0), some (.int x7)]) (stk' := []) rfl rfl rfl ?_)
    refine fp_iload_n (i := 1) (x := x7) dd_Reader_readTimes_29 rfl rfl (fr_pc (pc' := 30) rfl ?_)
    refine fp_iconst (v := (1 : Int32)) dd_Reader_readTimes_30 (by decide) (fr_pc (pc' := 31) rfl ?_)
    refine fr_icmp_lt (tgt := 40) dd_Reader_readTimes_31 rfl (fun _ => ?_) (fun _ => ?_)
    · refine fp_iconst (v := (0 : Int32)) dd_Reader_readTimes_40 (by decide) (fr_pc (pc' := 41) rfl ?_)
      exact fr_zret0 (v := (0 : Int32)) (Or.inl rfl) rfl rfl dd_Reader_readTimes_41
    · refine fr_pc (pc' := 34) rfl ?_
      refine fp_iload_n (i := 1) (x := x7) dd_Reader_readTimes_34 rfl rfl (fr_pc (pc' := 35) rfl ?_)
      refine fp_bipush (v := (20 : Int32)) dd_Reader_readTimes_35 (by decide) (fr_pc (pc' := 37) rfl ?_)
      refine fr_icmp_le (tgt := 42) dd_Reader_readTimes_37 rfl (fun _ => ?_) (fun _ => ?_)
      · refine fp_aload_n (i := 0) (r := p0) dd_Reader_readTimes_42 rfl rfl (fr_pc (pc' := 43) rfl ?_)
        refine fr_gR cl_7 0 (by decide) rfl sw_299 dd_Reader_readTimes_43 (fun x10 => fr_pc (pc' := 46) rfl ?_)
        refine fp_iconst (v := (1 : Int32)) dd_Reader_readTimes_46 (by decide) (fr_pc (pc' := 47) rfl ?_)
        refine fp_iload_n (i := 1) (x := x7) dd_Reader_readTimes_47 rfl rfl (fr_pc (pc' := 48) rfl ?_)
        refine fr_callV (stk := []) (As := [.int (1 : Int32), .int x7]) cl_6 (ok_Program_note x10 (1 : Int32) x7) mt_Program_note rfl rfl sw_678 sw_621 sw_622 (by decide) (Nat.le_of_ble_eq_true rfl) dd_Reader_readTimes_48 (fun u11 => fr_to (pc' := 51) (env' := [some (sf_rv p0), some (.int x7)]) (stk' := []) rfl rfl rfl ?_)
        refine fp_aload_n (i := 0) (r := p0) dd_Reader_readTimes_51 rfl rfl (fr_pc (pc' := 52) rfl ?_)
        refine fr_gR cl_7 1 (by decide) rfl sw_301 dd_Reader_readTimes_52 (fun x12 => fr_pc (pc' := 55) rfl ?_)
        refine fr_callV (stk := []) (As := []) cl_9 (ok_Tokens_step x12) mt_Tokens_step rfl rfl sw_612 sw_613 sw_614 (by decide) (Nat.le_of_ble_eq_true rfl) dd_Reader_readTimes_55 (fun u13 => fr_to (pc' := 58) (env' := [some (sf_rv p0), some (.int x7)]) (stk' := []) rfl rfl rfl ?_)
        refine fp_iconst (v := (1 : Int32)) dd_Reader_readTimes_58 (by decide) (fr_pc (pc' := 59) rfl ?_)
        exact fr_zret0 (v := (1 : Int32)) (Or.inr rfl) rfl rfl dd_Reader_readTimes_59
      · refine fr_pc (pc' := 40) rfl ?_
        refine fp_iconst (v := (0 : Int32)) dd_Reader_readTimes_40 (by decide) (fr_pc (pc' := 41) rfl ?_)
        exact fr_zret0 (v := (0 : Int32)) (Or.inl rfl) rfl rfl dd_Reader_readTimes_41
theorem mt_Reader_readOrder : sf_Mt ({ cls := "SplitFares$Reader", name := "readOrder", desc := "()Z" } : Jvm.MethodName) prog_8_method_5_code 2 (some .boolean) 0 := ⟨sw_546, sw_9, ⟨by decide, by decide, by decide +kernel⟩, by decide⟩
theorem dd_Reader_readOrder_0 : decode prog_8_method_5_code 0 = .ok (.aload_n 0, 1) := by decide +kernel
theorem dd_Reader_readOrder_1 : decode prog_8_method_5_code 1 = .ok (.invokevirtual 88, 3) := by decide +kernel
theorem dd_Reader_readOrder_4 : decode prog_8_method_5_code 4 = .ok (.istore_n 1, 1) := by decide +kernel
theorem dd_Reader_readOrder_5 : decode prog_8_method_5_code 5 = .ok (.iload_n 1, 1) := by decide +kernel
theorem dd_Reader_readOrder_6 : decode prog_8_method_5_code 6 = .ok (.iconst (-1), 1) := by decide +kernel
theorem dd_Reader_readOrder_7 : decode prog_8_method_5_code 7 = .ok (.if_icmp .ne 5, 3) := by decide +kernel
theorem dd_Reader_readOrder_10 : decode prog_8_method_5_code 10 = .ok (.iconst 0, 1) := by decide +kernel
theorem dd_Reader_readOrder_11 : decode prog_8_method_5_code 11 = .ok (.ireturn, 1) := by decide +kernel
theorem dd_Reader_readOrder_12 : decode prog_8_method_5_code 12 = .ok (.aload_n 0, 1) := by decide +kernel
theorem dd_Reader_readOrder_13 : decode prog_8_method_5_code 13 = .ok (.getfield 21, 3) := by decide +kernel
theorem dd_Reader_readOrder_16 : decode prog_8_method_5_code 16 = .ok (.invokevirtual 57, 3) := by decide +kernel
theorem dd_Reader_readOrder_19 : decode prog_8_method_5_code 19 = .ok (.aload_n 0, 1) := by decide +kernel
theorem dd_Reader_readOrder_20 : decode prog_8_method_5_code 20 = .ok (.getfield 12, 3) := by decide +kernel
theorem dd_Reader_readOrder_23 : decode prog_8_method_5_code 23 = .ok (.iload_n 1, 1) := by decide +kernel
theorem dd_Reader_readOrder_24 : decode prog_8_method_5_code 24 = .ok (.invokevirtual 78, 3) := by decide +kernel
theorem dd_Reader_readOrder_27 : decode prog_8_method_5_code 27 = .ok (.iload_n 1, 1) := by decide +kernel
theorem dd_Reader_readOrder_28 : decode prog_8_method_5_code 28 = .ok (.iconst 4, 1) := by decide +kernel
theorem dd_Reader_readOrder_29 : decode prog_8_method_5_code 29 = .ok (.if_icmp .eq 14, 3) := by decide +kernel
theorem dd_Reader_readOrder_32 : decode prog_8_method_5_code 32 = .ok (.aload_n 0, 1) := by decide +kernel
theorem dd_Reader_readOrder_33 : decode prog_8_method_5_code 33 = .ok (.iconst 0, 1) := by decide +kernel
theorem dd_Reader_readOrder_34 : decode prog_8_method_5_code 34 = .ok (.iconst 0, 1) := by decide +kernel
theorem dd_Reader_readOrder_35 : decode prog_8_method_5_code 35 = .ok (.invokestatic 82, 3) := by decide +kernel
theorem dd_Reader_readOrder_38 : decode prog_8_method_5_code 38 = .ok (.ifCond .ne 5, 3) := by decide +kernel
theorem dd_Reader_readOrder_41 : decode prog_8_method_5_code 41 = .ok (.iconst 0, 1) := by decide +kernel
theorem dd_Reader_readOrder_42 : decode prog_8_method_5_code 42 = .ok (.ireturn, 1) := by decide +kernel
theorem dd_Reader_readOrder_43 : decode prog_8_method_5_code 43 = .ok (.aload_n 0, 1) := by decide +kernel
theorem dd_Reader_readOrder_44 : decode prog_8_method_5_code 44 = .ok (.getfield 12, 3) := by decide +kernel
theorem dd_Reader_readOrder_47 : decode prog_8_method_5_code 47 = .ok (.iconst 3, 1) := by decide +kernel
theorem dd_Reader_readOrder_48 : decode prog_8_method_5_code 48 = .ok (.invokevirtual 85, 3) := by decide +kernel
theorem dd_Reader_readOrder_51 : decode prog_8_method_5_code 51 = .ok (.iload_n 1, 1) := by decide +kernel
theorem dd_Reader_readOrder_52 : decode prog_8_method_5_code 52 = .ok (.ifCond .eq 13, 3) := by decide +kernel
theorem dd_Reader_readOrder_55 : decode prog_8_method_5_code 55 = .ok (.iload_n 1, 1) := by decide +kernel
theorem dd_Reader_readOrder_56 : decode prog_8_method_5_code 56 = .ok (.iconst 1, 1) := by decide +kernel
theorem dd_Reader_readOrder_57 : decode prog_8_method_5_code 57 = .ok (.if_icmp .eq 8, 3) := by decide +kernel
theorem dd_Reader_readOrder_60 : decode prog_8_method_5_code 60 = .ok (.iload_n 1, 1) := by decide +kernel
theorem dd_Reader_readOrder_61 : decode prog_8_method_5_code 61 = .ok (.iconst 2, 1) := by decide +kernel
theorem dd_Reader_readOrder_62 : decode prog_8_method_5_code 62 = .ok (.if_icmp .ne 35, 3) := by decide +kernel
theorem dd_Reader_readOrder_65 : decode prog_8_method_5_code 65 = .ok (.aload_n 0, 1) := by decide +kernel
theorem dd_Reader_readOrder_66 : decode prog_8_method_5_code 66 = .ok (.getfield 21, 3) := by decide +kernel
theorem dd_Reader_readOrder_69 : decode prog_8_method_5_code 69 = .ok (.ldc 91, 2) := by decide +kernel
theorem dd_Reader_readOrder_71 : decode prog_8_method_5_code 71 = .ok (.invokevirtual 53, 3) := by decide +kernel
theorem dd_Reader_readOrder_74 : decode prog_8_method_5_code 74 = .ok (.ifCond .ne 5, 3) := by decide +kernel
theorem dd_Reader_readOrder_77 : decode prog_8_method_5_code 77 = .ok (.iconst 0, 1) := by decide +kernel
theorem dd_Reader_readOrder_78 : decode prog_8_method_5_code 78 = .ok (.ireturn, 1) := by decide +kernel
theorem dd_Reader_readOrder_79 : decode prog_8_method_5_code 79 = .ok (.aload_n 0, 1) := by decide +kernel
theorem dd_Reader_readOrder_80 : decode prog_8_method_5_code 80 = .ok (.getfield 21, 3) := by decide +kernel
theorem dd_Reader_readOrder_83 : decode prog_8_method_5_code 83 = .ok (.invokevirtual 57, 3) := by decide +kernel
theorem dd_Reader_readOrder_86 : decode prog_8_method_5_code 86 = .ok (.aload_n 0, 1) := by decide +kernel
theorem dd_Reader_readOrder_87 : decode prog_8_method_5_code 87 = .ok (.iconst 0, 1) := by decide +kernel
theorem dd_Reader_readOrder_88 : decode prog_8_method_5_code 88 = .ok (.iconst 0, 1) := by decide +kernel
theorem dd_Reader_readOrder_89 : decode prog_8_method_5_code 89 = .ok (.invokestatic 82, 3) := by decide +kernel
theorem dd_Reader_readOrder_92 : decode prog_8_method_5_code 92 = .ok (.ifCond .ne 5, 3) := by decide +kernel
theorem dd_Reader_readOrder_95 : decode prog_8_method_5_code 95 = .ok (.iconst 0, 1) := by decide +kernel
theorem dd_Reader_readOrder_96 : decode prog_8_method_5_code 96 = .ok (.ireturn, 1) := by decide +kernel
theorem dd_Reader_readOrder_97 : decode prog_8_method_5_code 97 = .ok (.aload_n 0, 1) := by decide +kernel
theorem dd_Reader_readOrder_98 : decode prog_8_method_5_code 98 = .ok (.getfield 12, 3) := by decide +kernel
theorem dd_Reader_readOrder_101 : decode prog_8_method_5_code 101 = .ok (.iconst 4, 1) := by decide +kernel
theorem dd_Reader_readOrder_102 : decode prog_8_method_5_code 102 = .ok (.invokevirtual 85, 3) := by decide +kernel
theorem dd_Reader_readOrder_105 : decode prog_8_method_5_code 105 = .ok (.aload_n 0, 1) := by decide +kernel
theorem dd_Reader_readOrder_106 : decode prog_8_method_5_code 106 = .ok (.invokevirtual 93, 3) := by decide +kernel
theorem dd_Reader_readOrder_109 : decode prog_8_method_5_code 109 = .ok (.ireturn, 1) := by decide +kernel
def jx_Reader_readOrder (p0 : Option Nat) : sf_M (Int32) :=
  sf_bnd (sf_rc 7 p0 (jx_Reader_orderKind p0)) fun x1 =>
  if x1 = (-1 : Int32) then (
  sf_ret (0 : Int32)
  ) else (
  sf_bnd (sf_gR 7 1 p0) fun x3 =>
  sf_bnd (sf_rc 9 x3 (jx_Tokens_step x3)) fun _ =>
  sf_bnd (sf_gR 7 0 p0) fun x5 =>
  sf_bnd (sf_rc 6 x5 (jx_Program_openClause x5 x1)) fun _ =>
  sf_or (α := Int32) (β := (Unit)) (
  if x1 = (4 : Int32) then (
  sf_ret (.inr ())
  ) else (
  sf_bnd (jx_G0 sf_deep 0 p0 (0 : Int32) (0 : Int32)) fun x8 =>
  if x8 = 0 then (
  sf_ret (.inl (0 : Int32))
  ) else (
  sf_ret (.inr ())
  )
  )
  ) (fun v10 =>
  sf_bnd (sf_gR 7 0 p0) fun x11 =>
  sf_bnd (sf_rc 6 x11 (jx_Program_mark x11 (3 : Int32))) fun _ =>
  sf_or (α := Int32) (β := (Unit)) (
  sf_or (α := (Int32 ⊕ (Unit))) (β := (Unit)) (
  if x1 = 0 then (
  sf_ret (.inr ())
  ) else (
  if x1 = (1 : Int32) then (
  sf_ret (.inr ())
  ) else (
  if x1 = (2 : Int32) then (
  sf_ret (.inr ())
  ) else (
  sf_ret (.inl (.inr ()))
  )
  )
  )
  ) (fun v16 =>
  sf_bnd (sf_gR 7 1 p0) fun x17 =>
  sf_bnd (sf_rc 9 x17 (jx_Tokens_isWord x17 (UInt32.ofNat 13))) fun x18 =>
  if x18 = 0 then (
  sf_ret (.inl (0 : Int32))
  ) else (
  sf_bnd (sf_gR 7 1 p0) fun x20 =>
  sf_bnd (sf_rc 9 x20 (jx_Tokens_step x20)) fun _ =>
  sf_bnd (jx_G0 sf_deep 0 p0 (0 : Int32) (0 : Int32)) fun x22 =>
  if x22 = 0 then (
  sf_ret (.inl (0 : Int32))
  ) else (
  sf_ret (.inr ())
  )
  )
  )
  ) (fun v24 =>
  sf_bnd (sf_gR 7 0 p0) fun x25 =>
  sf_bnd (sf_rc 6 x25 (jx_Program_mark x25 (4 : Int32))) fun _ =>
  sf_bnd (sf_rc 7 p0 (jx_Reader_readTimes p0)) fun x27 =>
  sf_bnd (sf_rz x27) fun x28 =>
  sf_ret x28
  )
  )
  )
set_option maxRecDepth 20000 in
set_option maxHeartbeats 4000000 in
theorem ok_Reader_readOrder (p0 : Option Nat) : sf_Ok ({ cls := "SplitFares$Reader", name := "readOrder", desc := "()Z" } : Jvm.MethodName) prog_8_method_5_code 2 (some .boolean) 110 [sf_rv p0] (jx_Reader_readOrder p0) (fun r => some (.int r)) := by
  refine sf_Ok.of (env := [some (sf_rv p0), none]) (plainFor_of_name (by decide)) [false] (fun G => ⟨pk_r, trivial⟩) (Nat.le_of_ble_eq_true rfl) rfl (fun X => ?_)
  unfold jx_Reader_readOrder
  refine fp_aload_n (i := 0) (r := p0) dd_Reader_readOrder_0 rfl rfl (fr_pc (pc' := 1) rfl ?_)
  refine fr_callV (stk := []) (As := []) cl_7 (ok_Reader_orderKind p0) mt_Reader_orderKind rfl rfl sw_547 sw_549 sp_7 (by decide) (Nat.le_of_ble_eq_true rfl) dd_Reader_readOrder_1 (fun x1 => fr_to (pc' := 4) (env' := [some (sf_rv p0), none]) (stk' := [.int x1]) rfl rfl rfl ?_)
  refine fp_istore_n (i := 1) dd_Reader_readOrder_4 rfl (Nat.le_of_ble_eq_true rfl) (fun _ => c1_r rfl) (fr_to (pc' := 5) (env' := [some (sf_rv p0), some (.int x1)]) (stk' := []) rfl rfl rfl ?_)
  refine fp_iload_n (i := 1) (x := x1) dd_Reader_readOrder_5 rfl rfl (fr_pc (pc' := 6) rfl ?_)
  refine fp_iconst (v := (-1 : Int32)) dd_Reader_readOrder_6 (by decide) (fr_pc (pc' := 7) rfl ?_)
  refine fr_icmp_ne (tgt := 12) dd_Reader_readOrder_7 rfl (fun _ => ?_) (fun _ => ?_)
  · refine fr_pc (pc' := 10) rfl ?_
    refine fp_iconst (v := (0 : Int32)) dd_Reader_readOrder_10 (by decide) (fr_pc (pc' := 11) rfl ?_)
    exact fr_zret0 (v := (0 : Int32)) (Or.inl rfl) rfl rfl dd_Reader_readOrder_11
  · refine fp_aload_n (i := 0) (r := p0) dd_Reader_readOrder_12 rfl rfl (fr_pc (pc' := 13) rfl ?_)
    refine fr_gR cl_7 1 (by decide) rfl sw_301 dd_Reader_readOrder_13 (fun x3 => fr_pc (pc' := 16) rfl ?_)
    refine fr_callV (stk := []) (As := []) cl_9 (ok_Tokens_step x3) mt_Tokens_step rfl rfl sw_612 sw_613 sw_614 (by decide) (Nat.le_of_ble_eq_true rfl) dd_Reader_readOrder_16 (fun u4 => fr_to (pc' := 19) (env' := [some (sf_rv p0), some (.int x1)]) (stk' := []) rfl rfl rfl ?_)
    refine fp_aload_n (i := 0) (r := p0) dd_Reader_readOrder_19 rfl rfl (fr_pc (pc' := 20) rfl ?_)
    refine fr_gR cl_7 0 (by decide) rfl sw_299 dd_Reader_readOrder_20 (fun x5 => fr_pc (pc' := 23) rfl ?_)
    refine fp_iload_n (i := 1) (x := x1) dd_Reader_readOrder_23 rfl rfl (fr_pc (pc' := 24) rfl ?_)
    refine fr_callV (stk := []) (As := [.int x1]) cl_6 (ok_Program_openClause x5 x1) mt_Program_openClause rfl rfl sw_616 sw_617 sw_618 (by decide) (Nat.le_of_ble_eq_true rfl) dd_Reader_readOrder_24 (fun u6 => fr_to (pc' := 27) (env' := [some (sf_rv p0), some (.int x1)]) (stk' := []) rfl rfl rfl ?_)
    refine fp_iload_n (i := 1) (x := x1) dd_Reader_readOrder_27 rfl rfl (fr_pc (pc' := 28) rfl ?_)
    refine fp_iconst (v := (4 : Int32)) dd_Reader_readOrder_28 (by decide) (fr_pc (pc' := 29) rfl ?_)
    refine fr_or (l1 := (fun (v10 : (Unit)) => sf_p 43 [some (sf_rv p0), some (.int x1)] [])) ?_ (fun v10 => ?_)
    · refine fr_icmp_eq (tgt := 43) dd_Reader_readOrder_29 rfl (fun _ => ?_) (fun _ => ?_)
      · exact fr_ret rfl
      · refine fr_pc (pc' := 32) rfl ?_
        refine fp_aload_n (i := 0) (r := p0) dd_Reader_readOrder_32 rfl rfl (fr_pc (pc' := 33) rfl ?_)
        refine fp_iconst (v := (0 : Int32)) dd_Reader_readOrder_33 (by decide) (fr_pc (pc' := 34) rfl ?_)
        refine fp_iconst (v := (0 : Int32)) dd_Reader_readOrder_34 (by decide) (fr_pc (pc' := 35) rfl ?_)
        refine fr_callS (stk := []) (ok_Reader_readSum sf_deep p0 (0 : Int32) (0 : Int32)) mt_Reader_readSum rfl rfl sw_628 sw_629 (by decide) (Nat.le_of_ble_eq_true rfl) dd_Reader_readOrder_35 (fun x8 => fr_to (pc' := 38) (env' := [some (sf_rv p0), some (.int x1)]) (stk' := [.int x8]) rfl rfl rfl ?_)
        refine fr_if_ne (tgt := 43) dd_Reader_readOrder_38 rfl (fun _ => ?_) (fun _ => ?_)
        · refine fr_pc (pc' := 41) rfl ?_
          refine fp_iconst (v := (0 : Int32)) dd_Reader_readOrder_41 (by decide) (fr_pc (pc' := 42) rfl ?_)
          exact fr_zret0 (v := (0 : Int32)) (Or.inl rfl) rfl rfl dd_Reader_readOrder_42
        · exact fr_ret rfl
    · refine fp_aload_n (i := 0) (r := p0) dd_Reader_readOrder_43 rfl rfl (fr_pc (pc' := 44) rfl ?_)
      refine fr_gR cl_7 0 (by decide) rfl sw_299 dd_Reader_readOrder_44 (fun x11 => fr_pc (pc' := 47) rfl ?_)
      refine fp_iconst (v := (3 : Int32)) dd_Reader_readOrder_47 (by decide) (fr_pc (pc' := 48) rfl ?_)
      refine fr_callV (stk := []) (As := [.int (3 : Int32)]) cl_6 (ok_Program_mark x11 (3 : Int32)) mt_Program_mark rfl rfl sw_672 sw_625 sw_626 (by decide) (Nat.le_of_ble_eq_true rfl) dd_Reader_readOrder_48 (fun u12 => fr_to (pc' := 51) (env' := [some (sf_rv p0), some (.int x1)]) (stk' := []) rfl rfl rfl ?_)
      refine fp_iload_n (i := 1) (x := x1) dd_Reader_readOrder_51 rfl rfl (fr_pc (pc' := 52) rfl ?_)
      refine fr_or (l1 := (fun (v24 : (Unit)) => sf_p 97 [some (sf_rv p0), some (.int x1)] [])) ?_ (fun v24 => ?_)
      · refine fr_or (l1 := (fun (v16 : (Unit)) => sf_p 65 [some (sf_rv p0), some (.int x1)] [])) ?_ (fun v16 => ?_)
        · refine fr_if_eq (tgt := 65) dd_Reader_readOrder_52 rfl (fun _ => ?_) (fun _ => ?_)
          · exact fr_ret rfl
          · refine fr_pc (pc' := 55) rfl ?_
            refine fp_iload_n (i := 1) (x := x1) dd_Reader_readOrder_55 rfl rfl (fr_pc (pc' := 56) rfl ?_)
            refine fp_iconst (v := (1 : Int32)) dd_Reader_readOrder_56 (by decide) (fr_pc (pc' := 57) rfl ?_)
            refine fr_icmp_eq (tgt := 65) dd_Reader_readOrder_57 rfl (fun _ => ?_) (fun _ => ?_)
            · exact fr_ret rfl
            · refine fr_pc (pc' := 60) rfl ?_
              refine fp_iload_n (i := 1) (x := x1) dd_Reader_readOrder_60 rfl rfl (fr_pc (pc' := 61) rfl ?_)
              refine fp_iconst (v := (2 : Int32)) dd_Reader_readOrder_61 (by decide) (fr_pc (pc' := 62) rfl ?_)
              refine fr_icmp_ne (tgt := 97) dd_Reader_readOrder_62 rfl (fun _ => ?_) (fun _ => ?_)
              · refine fr_pc (pc' := 65) rfl ?_
                exact fr_ret rfl
              · exact fr_ret rfl
        · refine fp_aload_n (i := 0) (r := p0) dd_Reader_readOrder_65 rfl rfl (fr_pc (pc' := 66) rfl ?_)
          refine fr_gR cl_7 1 (by decide) rfl sw_301 dd_Reader_readOrder_66 (fun x17 => fr_pc (pc' := 69) rfl ?_)
          refine fp_ldcS (i := 13) rfl (by decide) rfl rfl dd_Reader_readOrder_69 (fr_pc (pc' := 71) rfl ?_)
          refine fr_callV (stk := []) (As := [.float (UInt32.ofNat 13)]) cl_9 (ok_Tokens_isWord x17 (UInt32.ofNat 13)) mt_Tokens_isWord rfl rfl sw_552 sw_553 sw_554 (by decide) (Nat.le_of_ble_eq_true rfl) dd_Reader_readOrder_71 (fun x18 => fr_to (pc' := 74) (env' := [some (sf_rv p0), some (.int x1)]) (stk' := [.int x18]) rfl rfl rfl ?_)
          refine fr_if_ne (tgt := 79) dd_Reader_readOrder_74 rfl (fun _ => ?_) (fun _ => ?_)
          · refine fr_pc (pc' := 77) rfl ?_
            refine fp_iconst (v := (0 : Int32)) dd_Reader_readOrder_77 (by decide) (fr_pc (pc' := 78) rfl ?_)
            exact fr_zret0 (v := (0 : Int32)) (Or.inl rfl) rfl rfl dd_Reader_readOrder_78
          · refine fp_aload_n (i := 0) (r := p0) dd_Reader_readOrder_79 rfl rfl (fr_pc (pc' := 80) rfl ?_)
            refine fr_gR cl_7 1 (by decide) rfl sw_301 dd_Reader_readOrder_80 (fun x20 => fr_pc (pc' := 83) rfl ?_)
            refine fr_callV (stk := []) (As := []) cl_9 (ok_Tokens_step x20) mt_Tokens_step rfl rfl sw_612 sw_613 sw_614 (by decide) (Nat.le_of_ble_eq_true rfl) dd_Reader_readOrder_83 (fun u21 => fr_to (pc' := 86) (env' := [some (sf_rv p0), some (.int x1)]) (stk' := []) rfl rfl rfl ?_)
            refine fp_aload_n (i := 0) (r := p0) dd_Reader_readOrder_86 rfl rfl (fr_pc (pc' := 87) rfl ?_)
            refine fp_iconst (v := (0 : Int32)) dd_Reader_readOrder_87 (by decide) (fr_pc (pc' := 88) rfl ?_)
            refine fp_iconst (v := (0 : Int32)) dd_Reader_readOrder_88 (by decide) (fr_pc (pc' := 89) rfl ?_)
            refine fr_callS (stk := []) (ok_Reader_readSum sf_deep p0 (0 : Int32) (0 : Int32)) mt_Reader_readSum rfl rfl sw_628 sw_629 (by decide) (Nat.le_of_ble_eq_true rfl) dd_Reader_readOrder_89 (fun x22 => fr_to (pc' := 92) (env' := [some (sf_rv p0), some (.int x1)]) (stk' := [.int x22]) rfl rfl rfl ?_)
            refine fr_if_ne (tgt := 97) dd_Reader_readOrder_92 rfl (fun _ => ?_) (fun _ => ?_)
            · refine fr_pc (pc' := 95) rfl ?_
              refine fp_iconst (v := (0 : Int32)) dd_Reader_readOrder_95 (by decide) (fr_pc (pc' := 96) rfl ?_)
              exact fr_zret0 (v := (0 : Int32)) (Or.inl rfl) rfl rfl dd_Reader_readOrder_96
            · exact fr_ret rfl
      · refine fp_aload_n (i := 0) (r := p0) dd_Reader_readOrder_97 rfl rfl (fr_pc (pc' := 98) rfl ?_)
        refine fr_gR cl_7 0 (by decide) rfl sw_299 dd_Reader_readOrder_98 (fun x25 => fr_pc (pc' := 101) rfl ?_)
        refine fp_iconst (v := (4 : Int32)) dd_Reader_readOrder_101 (by decide) (fr_pc (pc' := 102) rfl ?_)
        refine fr_callV (stk := []) (As := [.int (4 : Int32)]) cl_6 (ok_Program_mark x25 (4 : Int32)) mt_Program_mark rfl rfl sw_672 sw_625 sw_626 (by decide) (Nat.le_of_ble_eq_true rfl) dd_Reader_readOrder_102 (fun u26 => fr_to (pc' := 105) (env' := [some (sf_rv p0), some (.int x1)]) (stk' := []) rfl rfl rfl ?_)
        refine fp_aload_n (i := 0) (r := p0) dd_Reader_readOrder_105 rfl rfl (fr_pc (pc' := 106) rfl ?_)
        refine fr_callV (stk := []) (As := []) cl_7 (ok_Reader_readTimes p0) mt_Reader_readTimes rfl rfl sw_673 sw_675 sp_13 (by decide) (Nat.le_of_ble_eq_true rfl) dd_Reader_readOrder_106 (fun x27 => fr_to (pc' := 109) (env' := [some (sf_rv p0), some (.int x1)]) (stk' := [.int x27]) rfl rfl rfl ?_)
        exact fr_zret (r := fun x28 => x28) (fun _ => rfl) rfl dd_Reader_readOrder_109
theorem mt_Reader_readLawClause : sf_Mt ({ cls := "SplitFares$Reader", name := "readLawClause", desc := "()Z" } : Jvm.MethodName) prog_8_method_4_code 2 (some .boolean) 0 := ⟨sw_682, sw_9, ⟨by decide, by decide, by decide +kernel⟩, by decide⟩
theorem dd_Reader_readLawClause_0 : decode prog_8_method_4_code 0 = .ok (.aload_n 0, 1) := by decide +kernel
theorem dd_Reader_readLawClause_1 : decode prog_8_method_4_code 1 = .ok (.getfield 21, 3) := by decide +kernel
theorem dd_Reader_readLawClause_4 : decode prog_8_method_4_code 4 = .ok (.ldc 74, 2) := by decide +kernel
theorem dd_Reader_readLawClause_6 : decode prog_8_method_4_code 6 = .ok (.invokevirtual 53, 3) := by decide +kernel
theorem dd_Reader_readLawClause_9 : decode prog_8_method_4_code 9 = .ok (.istore_n 1, 1) := by decide +kernel
theorem dd_Reader_readLawClause_10 : decode prog_8_method_4_code 10 = .ok (.iload_n 1, 1) := by decide +kernel
theorem dd_Reader_readLawClause_11 : decode prog_8_method_4_code 11 = .ok (.ifCond .ne 17, 3) := by decide +kernel
theorem dd_Reader_readLawClause_14 : decode prog_8_method_4_code 14 = .ok (.aload_n 0, 1) := by decide +kernel
theorem dd_Reader_readLawClause_15 : decode prog_8_method_4_code 15 = .ok (.getfield 21, 3) := by decide +kernel
theorem dd_Reader_readLawClause_18 : decode prog_8_method_4_code 18 = .ok (.ldc 76, 2) := by decide +kernel
theorem dd_Reader_readLawClause_20 : decode prog_8_method_4_code 20 = .ok (.invokevirtual 53, 3) := by decide +kernel
theorem dd_Reader_readLawClause_23 : decode prog_8_method_4_code 23 = .ok (.ifCond .ne 5, 3) := by decide +kernel
theorem dd_Reader_readLawClause_26 : decode prog_8_method_4_code 26 = .ok (.iconst 0, 1) := by decide +kernel
theorem dd_Reader_readLawClause_27 : decode prog_8_method_4_code 27 = .ok (.ireturn, 1) := by decide +kernel
theorem dd_Reader_readLawClause_28 : decode prog_8_method_4_code 28 = .ok (.aload_n 0, 1) := by decide +kernel
theorem dd_Reader_readLawClause_29 : decode prog_8_method_4_code 29 = .ok (.getfield 21, 3) := by decide +kernel
theorem dd_Reader_readLawClause_32 : decode prog_8_method_4_code 32 = .ok (.invokevirtual 57, 3) := by decide +kernel
theorem dd_Reader_readLawClause_35 : decode prog_8_method_4_code 35 = .ok (.aload_n 0, 1) := by decide +kernel
theorem dd_Reader_readLawClause_36 : decode prog_8_method_4_code 36 = .ok (.getfield 12, 3) := by decide +kernel
theorem dd_Reader_readLawClause_39 : decode prog_8_method_4_code 39 = .ok (.iload_n 1, 1) := by decide +kernel
theorem dd_Reader_readLawClause_40 : decode prog_8_method_4_code 40 = .ok (.ifCond .eq 7, 3) := by decide +kernel
theorem dd_Reader_readLawClause_43 : decode prog_8_method_4_code 43 = .ok (.iconst 0, 1) := by decide +kernel
theorem dd_Reader_readLawClause_44 : decode prog_8_method_4_code 44 = .ok (.goto 4, 3) := by decide +kernel
theorem dd_Reader_readLawClause_47 : decode prog_8_method_4_code 47 = .ok (.iconst 1, 1) := by decide +kernel
theorem dd_Reader_readLawClause_48 : decode prog_8_method_4_code 48 = .ok (.invokevirtual 78, 3) := by decide +kernel
theorem dd_Reader_readLawClause_51 : decode prog_8_method_4_code 51 = .ok (.iload_n 1, 1) := by decide +kernel
theorem dd_Reader_readLawClause_52 : decode prog_8_method_4_code 52 = .ok (.ifCond .eq 14, 3) := by decide +kernel
theorem dd_Reader_readLawClause_55 : decode prog_8_method_4_code 55 = .ok (.aload_n 0, 1) := by decide +kernel
theorem dd_Reader_readLawClause_56 : decode prog_8_method_4_code 56 = .ok (.iconst 0, 1) := by decide +kernel
theorem dd_Reader_readLawClause_57 : decode prog_8_method_4_code 57 = .ok (.iconst 0, 1) := by decide +kernel
theorem dd_Reader_readLawClause_58 : decode prog_8_method_4_code 58 = .ok (.invokestatic 82, 3) := by decide +kernel
theorem dd_Reader_readLawClause_61 : decode prog_8_method_4_code 61 = .ok (.ifCond .ne 5, 3) := by decide +kernel
theorem dd_Reader_readLawClause_64 : decode prog_8_method_4_code 64 = .ok (.iconst 0, 1) := by decide +kernel
theorem dd_Reader_readLawClause_65 : decode prog_8_method_4_code 65 = .ok (.ireturn, 1) := by decide +kernel
theorem dd_Reader_readLawClause_66 : decode prog_8_method_4_code 66 = .ok (.aload_n 0, 1) := by decide +kernel
theorem dd_Reader_readLawClause_67 : decode prog_8_method_4_code 67 = .ok (.getfield 12, 3) := by decide +kernel
theorem dd_Reader_readLawClause_70 : decode prog_8_method_4_code 70 = .ok (.iconst 3, 1) := by decide +kernel
theorem dd_Reader_readLawClause_71 : decode prog_8_method_4_code 71 = .ok (.invokevirtual 85, 3) := by decide +kernel
theorem dd_Reader_readLawClause_74 : decode prog_8_method_4_code 74 = .ok (.aload_n 0, 1) := by decide +kernel
theorem dd_Reader_readLawClause_75 : decode prog_8_method_4_code 75 = .ok (.getfield 12, 3) := by decide +kernel
theorem dd_Reader_readLawClause_78 : decode prog_8_method_4_code 78 = .ok (.iconst 4, 1) := by decide +kernel
theorem dd_Reader_readLawClause_79 : decode prog_8_method_4_code 79 = .ok (.invokevirtual 85, 3) := by decide +kernel
theorem dd_Reader_readLawClause_82 : decode prog_8_method_4_code 82 = .ok (.iconst 1, 1) := by decide +kernel
theorem dd_Reader_readLawClause_83 : decode prog_8_method_4_code 83 = .ok (.ireturn, 1) := by decide +kernel
def jx_Reader_readLawClause (p0 : Option Nat) : sf_M (Int32) :=
  sf_bnd (sf_gR 7 1 p0) fun x1 =>
  sf_bnd (sf_rc 9 x1 (jx_Tokens_isWord x1 (UInt32.ofNat 18))) fun x2 =>
  sf_or (α := Int32) (β := (Unit)) (
  if x2 = 0 then (
  sf_bnd (sf_gR 7 1 p0) fun x4 =>
  sf_bnd (sf_rc 9 x4 (jx_Tokens_isWord x4 (UInt32.ofNat 19))) fun x5 =>
  if x5 = 0 then (
  sf_ret (.inl (0 : Int32))
  ) else (
  sf_ret (.inr ())
  )
  ) else (
  sf_ret (.inr ())
  )
  ) (fun v7 =>
  sf_bnd (sf_gR 7 1 p0) fun x8 =>
  sf_bnd (sf_rc 9 x8 (jx_Tokens_step x8)) fun _ =>
  sf_bnd (sf_gR 7 0 p0) fun x10 =>
  sf_bnd (α := (Int32)) (
  if x2 = 0 then (
  sf_ret (1 : Int32)
  ) else (
  sf_ret (0 : Int32)
  )
  ) (fun v12 =>
  sf_bnd (sf_rc 6 x10 (jx_Program_openClause x10 v12)) fun _ =>
  sf_or (α := Int32) (β := (Unit)) (
  if x2 = 0 then (
  sf_ret (.inr ())
  ) else (
  sf_bnd (jx_G0 sf_deep 0 p0 (0 : Int32) (0 : Int32)) fun x15 =>
  if x15 = 0 then (
  sf_ret (.inl (0 : Int32))
  ) else (
  sf_ret (.inr ())
  )
  )
  ) (fun v17 =>
  sf_bnd (sf_gR 7 0 p0) fun x18 =>
  sf_bnd (sf_rc 6 x18 (jx_Program_mark x18 (3 : Int32))) fun _ =>
  sf_bnd (sf_gR 7 0 p0) fun x20 =>
  sf_bnd (sf_rc 6 x20 (jx_Program_mark x20 (4 : Int32))) fun _ =>
  sf_ret (1 : Int32)
  )
  )
  )
set_option maxRecDepth 20000 in
set_option maxHeartbeats 4000000 in
theorem ok_Reader_readLawClause (p0 : Option Nat) : sf_Ok ({ cls := "SplitFares$Reader", name := "readLawClause", desc := "()Z" } : Jvm.MethodName) prog_8_method_4_code 2 (some .boolean) 110 [sf_rv p0] (jx_Reader_readLawClause p0) (fun r => some (.int r)) := by
  refine sf_Ok.of (env := [some (sf_rv p0), none]) (plainFor_of_name (by decide)) [false] (fun G => ⟨pk_r, trivial⟩) (Nat.le_of_ble_eq_true rfl) rfl (fun X => ?_)
  unfold jx_Reader_readLawClause
  refine fp_aload_n (i := 0) (r := p0) dd_Reader_readLawClause_0 rfl rfl (fr_pc (pc' := 1) rfl ?_)
  refine fr_gR cl_7 1 (by decide) rfl sw_301 dd_Reader_readLawClause_1 (fun x1 => fr_pc (pc' := 4) rfl ?_)
  refine fp_ldcS (i := 18) rfl (by decide) rfl rfl dd_Reader_readLawClause_4 (fr_pc (pc' := 6) rfl ?_)
  refine fr_callV (stk := []) (As := [.float (UInt32.ofNat 18)]) cl_9 (ok_Tokens_isWord x1 (UInt32.ofNat 18)) mt_Tokens_isWord rfl rfl sw_552 sw_553 sw_554 (by decide) (Nat.le_of_ble_eq_true rfl) dd_Reader_readLawClause_6 (fun x2 => fr_to (pc' := 9) (env' := [some (sf_rv p0), none]) (stk' := [.int x2]) rfl rfl rfl ?_)
  refine fp_istore_n (i := 1) dd_Reader_readLawClause_9 rfl (Nat.le_of_ble_eq_true rfl) (fun _ => c1_r rfl) (fr_to (pc' := 10) (env' := [some (sf_rv p0), some (.int x2)]) (stk' := []) rfl rfl rfl ?_)
  refine fp_iload_n (i := 1) (x := x2) dd_Reader_readLawClause_10 rfl rfl (fr_pc (pc' := 11) rfl ?_)
  refine fr_or (l1 := (fun (v7 : (Unit)) => sf_p 28 [some (sf_rv p0), some (.int x2)] [])) ?_ (fun v7 => ?_)
  · refine fr_if_ne (tgt := 28) dd_Reader_readLawClause_11 rfl (fun _ => ?_) (fun _ => ?_)
    · refine fr_pc (pc' := 14) rfl ?_
      refine fp_aload_n (i := 0) (r := p0) dd_Reader_readLawClause_14 rfl rfl (fr_pc (pc' := 15) rfl ?_)
      refine fr_gR cl_7 1 (by decide) rfl sw_301 dd_Reader_readLawClause_15 (fun x4 => fr_pc (pc' := 18) rfl ?_)
      refine fp_ldcS (i := 19) rfl (by decide) rfl rfl dd_Reader_readLawClause_18 (fr_pc (pc' := 20) rfl ?_)
      refine fr_callV (stk := []) (As := [.float (UInt32.ofNat 19)]) cl_9 (ok_Tokens_isWord x4 (UInt32.ofNat 19)) mt_Tokens_isWord rfl rfl sw_552 sw_553 sw_554 (by decide) (Nat.le_of_ble_eq_true rfl) dd_Reader_readLawClause_20 (fun x5 => fr_to (pc' := 23) (env' := [some (sf_rv p0), some (.int x2)]) (stk' := [.int x5]) rfl rfl rfl ?_)
      refine fr_if_ne (tgt := 28) dd_Reader_readLawClause_23 rfl (fun _ => ?_) (fun _ => ?_)
      · refine fr_pc (pc' := 26) rfl ?_
        refine fp_iconst (v := (0 : Int32)) dd_Reader_readLawClause_26 (by decide) (fr_pc (pc' := 27) rfl ?_)
        exact fr_zret0 (v := (0 : Int32)) (Or.inl rfl) rfl rfl dd_Reader_readLawClause_27
      · exact fr_ret rfl
    · exact fr_ret rfl
  · refine fp_aload_n (i := 0) (r := p0) dd_Reader_readLawClause_28 rfl rfl (fr_pc (pc' := 29) rfl ?_)
    refine fr_gR cl_7 1 (by decide) rfl sw_301 dd_Reader_readLawClause_29 (fun x8 => fr_pc (pc' := 32) rfl ?_)
    refine fr_callV (stk := []) (As := []) cl_9 (ok_Tokens_step x8) mt_Tokens_step rfl rfl sw_612 sw_613 sw_614 (by decide) (Nat.le_of_ble_eq_true rfl) dd_Reader_readLawClause_32 (fun u9 => fr_to (pc' := 35) (env' := [some (sf_rv p0), some (.int x2)]) (stk' := []) rfl rfl rfl ?_)
    refine fp_aload_n (i := 0) (r := p0) dd_Reader_readLawClause_35 rfl rfl (fr_pc (pc' := 36) rfl ?_)
    refine fr_gR cl_7 0 (by decide) rfl sw_299 dd_Reader_readLawClause_36 (fun x10 => fr_pc (pc' := 39) rfl ?_)
    refine fp_iload_n (i := 1) (x := x2) dd_Reader_readLawClause_39 rfl rfl (fr_pc (pc' := 40) rfl ?_)
    refine fr_bnd (l1 := (fun (v12 : (Int32)) => sf_p 48 [some (sf_rv p0), some (.int x2)] [.int v12, sf_rv x10])) ?_ (fun v12 => ?_)
    · refine fr_if_eq (tgt := 47) dd_Reader_readLawClause_40 rfl (fun _ => ?_) (fun _ => ?_)
      · refine fp_iconst (v := (1 : Int32)) dd_Reader_readLawClause_47 (by decide) (fr_pc (pc' := 48) rfl ?_)
        exact fr_ret rfl
      · refine fr_pc (pc' := 43) rfl ?_
        refine fp_iconst (v := (0 : Int32)) dd_Reader_readLawClause_43 (by decide) (fr_pc (pc' := 44) rfl ?_)
        refine fp_goto (tgt := 48) dd_Reader_readLawClause_44 rfl ?_
        exact fr_ret rfl
    · refine fr_callV (stk := []) (As := [.int v12]) cl_6 (ok_Program_openClause x10 v12) mt_Program_openClause rfl rfl sw_616 sw_617 sw_618 (by decide) (Nat.le_of_ble_eq_true rfl) dd_Reader_readLawClause_48 (fun u13 => fr_to (pc' := 51) (env' := [some (sf_rv p0), some (.int x2)]) (stk' := []) rfl rfl rfl ?_)
      refine fp_iload_n (i := 1) (x := x2) dd_Reader_readLawClause_51 rfl rfl (fr_pc (pc' := 52) rfl ?_)
      refine fr_or (l1 := (fun (v17 : (Unit)) => sf_p 66 [some (sf_rv p0), some (.int x2)] [])) ?_ (fun v17 => ?_)
      · refine fr_if_eq (tgt := 66) dd_Reader_readLawClause_52 rfl (fun _ => ?_) (fun _ => ?_)
        · exact fr_ret rfl
        · refine fr_pc (pc' := 55) rfl ?_
          refine fp_aload_n (i := 0) (r := p0) dd_Reader_readLawClause_55 rfl rfl (fr_pc (pc' := 56) rfl ?_)
          refine fp_iconst (v := (0 : Int32)) dd_Reader_readLawClause_56 (by decide) (fr_pc (pc' := 57) rfl ?_)
          refine fp_iconst (v := (0 : Int32)) dd_Reader_readLawClause_57 (by decide) (fr_pc (pc' := 58) rfl ?_)
          refine fr_callS (stk := []) (ok_Reader_readSum sf_deep p0 (0 : Int32) (0 : Int32)) mt_Reader_readSum rfl rfl sw_628 sw_629 (by decide) (Nat.le_of_ble_eq_true rfl) dd_Reader_readLawClause_58 (fun x15 => fr_to (pc' := 61) (env' := [some (sf_rv p0), some (.int x2)]) (stk' := [.int x15]) rfl rfl rfl ?_)
          refine fr_if_ne (tgt := 66) dd_Reader_readLawClause_61 rfl (fun _ => ?_) (fun _ => ?_)
          · refine fr_pc (pc' := 64) rfl ?_
            refine fp_iconst (v := (0 : Int32)) dd_Reader_readLawClause_64 (by decide) (fr_pc (pc' := 65) rfl ?_)
            exact fr_zret0 (v := (0 : Int32)) (Or.inl rfl) rfl rfl dd_Reader_readLawClause_65
          · exact fr_ret rfl
      · refine fp_aload_n (i := 0) (r := p0) dd_Reader_readLawClause_66 rfl rfl (fr_pc (pc' := 67) rfl ?_)
        refine fr_gR cl_7 0 (by decide) rfl sw_299 dd_Reader_readLawClause_67 (fun x18 => fr_pc (pc' := 70) rfl ?_)
        refine fp_iconst (v := (3 : Int32)) dd_Reader_readLawClause_70 (by decide) (fr_pc (pc' := 71) rfl ?_)
        refine fr_callV (stk := []) (As := [.int (3 : Int32)]) cl_6 (ok_Program_mark x18 (3 : Int32)) mt_Program_mark rfl rfl sw_672 sw_625 sw_626 (by decide) (Nat.le_of_ble_eq_true rfl) dd_Reader_readLawClause_71 (fun u19 => fr_to (pc' := 74) (env' := [some (sf_rv p0), some (.int x2)]) (stk' := []) rfl rfl rfl ?_)
        refine fp_aload_n (i := 0) (r := p0) dd_Reader_readLawClause_74 rfl rfl (fr_pc (pc' := 75) rfl ?_)
        refine fr_gR cl_7 0 (by decide) rfl sw_299 dd_Reader_readLawClause_75 (fun x20 => fr_pc (pc' := 78) rfl ?_)
        refine fp_iconst (v := (4 : Int32)) dd_Reader_readLawClause_78 (by decide) (fr_pc (pc' := 79) rfl ?_)
        refine fr_callV (stk := []) (As := [.int (4 : Int32)]) cl_6 (ok_Program_mark x20 (4 : Int32)) mt_Program_mark rfl rfl sw_672 sw_625 sw_626 (by decide) (Nat.le_of_ble_eq_true rfl) dd_Reader_readLawClause_79 (fun u21 => fr_to (pc' := 82) (env' := [some (sf_rv p0), some (.int x2)]) (stk' := []) rfl rfl rfl ?_)
        refine fp_iconst (v := (1 : Int32)) dd_Reader_readLawClause_82 (by decide) (fr_pc (pc' := 83) rfl ?_)
        exact fr_zret0 (v := (1 : Int32)) (Or.inr rfl) rfl rfl dd_Reader_readLawClause_83
theorem mt_Reader_readNots : sf_Mt ({ cls := "SplitFares$Reader", name := "readNots", desc := "()Z" } : Jvm.MethodName) prog_8_method_9_code 3 (some .boolean) 0 := ⟨sw_698, sw_9, ⟨by decide, by decide, by decide +kernel⟩, by decide⟩
theorem dd_Reader_readNots_0 : decode prog_8_method_9_code 0 = .ok (.iconst 0, 1) := by decide +kernel
theorem dd_Reader_readNots_1 : decode prog_8_method_9_code 1 = .ok (.istore_n 1, 1) := by decide +kernel
theorem dd_Reader_readNots_2 : decode prog_8_method_9_code 2 = .ok (.iconst 0, 1) := by decide +kernel
theorem dd_Reader_readNots_3 : decode prog_8_method_9_code 3 = .ok (.istore_n 2, 1) := by decide +kernel
theorem dd_Reader_readNots_4 : decode prog_8_method_9_code 4 = .ok (.iload_n 2, 1) := by decide +kernel
theorem dd_Reader_readNots_5 : decode prog_8_method_9_code 5 = .ok (.sipush 400, 3) := by decide +kernel
theorem dd_Reader_readNots_8 : decode prog_8_method_9_code 8 = .ok (.if_icmp .ge 38, 3) := by decide +kernel
theorem dd_Reader_readNots_11 : decode prog_8_method_9_code 11 = .ok (.aload_n 0, 1) := by decide +kernel
theorem dd_Reader_readNots_12 : decode prog_8_method_9_code 12 = .ok (.getfield 21, 3) := by decide +kernel
theorem dd_Reader_readNots_15 : decode prog_8_method_9_code 15 = .ok (.ldc 132, 2) := by decide +kernel
theorem dd_Reader_readNots_17 : decode prog_8_method_9_code 17 = .ok (.invokevirtual 53, 3) := by decide +kernel
theorem dd_Reader_readNots_20 : decode prog_8_method_9_code 20 = .ok (.ifCond .eq 26, 3) := by decide +kernel
theorem dd_Reader_readNots_23 : decode prog_8_method_9_code 23 = .ok (.aload_n 0, 1) := by decide +kernel
theorem dd_Reader_readNots_24 : decode prog_8_method_9_code 24 = .ok (.getfield 21, 3) := by decide +kernel
theorem dd_Reader_readNots_27 : decode prog_8_method_9_code 27 = .ok (.invokevirtual 57, 3) := by decide +kernel
theorem dd_Reader_readNots_30 : decode prog_8_method_9_code 30 = .ok (.iload_n 1, 1) := by decide +kernel
theorem dd_Reader_readNots_31 : decode prog_8_method_9_code 31 = .ok (.ifCond .ne 7, 3) := by decide +kernel
theorem dd_Reader_readNots_34 : decode prog_8_method_9_code 34 = .ok (.iconst 1, 1) := by decide +kernel
theorem dd_Reader_readNots_35 : decode prog_8_method_9_code 35 = .ok (.goto 4, 3) := by decide +kernel
theorem dd_Reader_readNots_38 : decode prog_8_method_9_code 38 = .ok (.iconst 0, 1) := by decide +kernel
theorem dd_Reader_readNots_39 : decode prog_8_method_9_code 39 = .ok (.istore_n 1, 1) := by decide +kernel
theorem dd_Reader_readNots_40 : decode prog_8_method_9_code 40 = .ok (.iinc 2 1, 3) := by decide +kernel
theorem dd_Reader_readNots_43 : decode prog_8_method_9_code 43 = .ok (.goto (-39), 3) := by decide +kernel
theorem dd_Reader_readNots_46 : decode prog_8_method_9_code 46 = .ok (.iload_n 1, 1) := by decide +kernel
theorem dd_Reader_readNots_47 : decode prog_8_method_9_code 47 = .ok (.ireturn, 1) := by decide +kernel
def jx_Reader_readNots (p0 : Option Nat) : sf_M (Int32) :=
  sf_bnd (sf_loop (β := (Int32 × Int32)) (γ := (Int32)) (fun b1 =>
  if (400 : Int32) ≤ b1.2 then (
  sf_ret (.inr b1.1)
  ) else (
  sf_bnd (sf_gR 7 1 p0) fun x3 =>
  sf_bnd (sf_rc 9 x3 (jx_Tokens_isWord x3 (UInt32.ofNat 23))) fun x4 =>
  if x4 = 0 then (
  sf_ret (.inr b1.1)
  ) else (
  sf_bnd (sf_gR 7 1 p0) fun x6 =>
  sf_bnd (sf_rc 9 x6 (jx_Tokens_step x6)) fun _ =>
  if b1.1 = 0 then (
  sf_bnd (sf_ret (b1.2 + (1 : Int32))) fun y9 =>
  sf_ret (.inl ((1 : Int32), y9))
  ) else (
  sf_bnd (sf_ret (b1.2 + (1 : Int32))) fun y10 =>
  sf_ret (.inl ((0 : Int32), y10))
  )
  )
  )
  ) sf_fuel ((0 : Int32), (0 : Int32))) (fun e11 =>
  sf_bnd (sf_rz e11) fun x12 =>
  sf_ret x12
  )
set_option maxRecDepth 20000 in
set_option maxHeartbeats 4000000 in
theorem ok_Reader_readNots (p0 : Option Nat) : sf_Ok ({ cls := "SplitFares$Reader", name := "readNots", desc := "()Z" } : Jvm.MethodName) prog_8_method_9_code 3 (some .boolean) 7 [sf_rv p0] (jx_Reader_readNots p0) (fun r => some (.int r)) := by
  refine sf_Ok.of (env := [some (sf_rv p0), none, none]) (plainFor_of_name (by decide)) [false] (fun G => ⟨pk_r, trivial⟩) (Nat.le_of_ble_eq_true rfl) rfl (fun X => ?_)
  unfold jx_Reader_readNots
  refine fp_iconst (v := (0 : Int32)) dd_Reader_readNots_0 (by decide) (fr_pc (pc' := 1) rfl ?_)
  refine fp_istore_n (i := 1) dd_Reader_readNots_1 rfl (Nat.le_of_ble_eq_true rfl) (fun _ => c1_r rfl) (fr_to (pc' := 2) (env' := [some (sf_rv p0), some (.int (0 : Int32)), none]) (stk' := []) rfl rfl rfl ?_)
  refine fp_iconst (v := (0 : Int32)) dd_Reader_readNots_2 (by decide) (fr_pc (pc' := 3) rfl ?_)
  refine fp_istore_n (i := 2) dd_Reader_readNots_3 rfl (Nat.le_of_ble_eq_true rfl) (fun _ => c1_i rfl) (fr_to (pc' := 4) (env' := [some (sf_rv p0), some (.int (0 : Int32)), some (.int (0 : Int32))]) (stk' := []) rfl rfl rfl ?_)
  refine fr_to (pc' := 4) (env' := [some (sf_rv p0), some (.int (0 : Int32)), some (.int (0 : Int32))]) (stk' := []) rfl rfl rfl ?_
  refine fr_bnd (l1 := (fun (e11 : (Int32)) => sf_p 46 [some (sf_rv p0), some (.int e11), none] [])) (fr_loop (Lb := (fun (b1 : (Int32 × Int32)) => sf_p 4 [some (sf_rv p0), some (.int b1.1), some (.int b1.2)] [])) (fun b1 => ?_) _ _) (fun e11 => ?_)
  · refine fp_iload_n (i := 2) (x := b1.2) dd_Reader_readNots_4 rfl rfl (fr_pc (pc' := 5) rfl ?_)
    refine fp_sipush (v := (400 : Int32)) dd_Reader_readNots_5 (by decide) (fr_pc (pc' := 8) rfl ?_)
    refine fr_icmp_ge (tgt := 46) dd_Reader_readNots_8 rfl (fun _ => ?_) (fun _ => ?_)
    · refine fr_wk [true, true, false] ?_
      exact fr_ret rfl
    · refine fr_pc (pc' := 11) rfl ?_
      refine fp_aload_n (i := 0) (r := p0) dd_Reader_readNots_11 rfl rfl (fr_pc (pc' := 12) rfl ?_)
      refine fr_gR cl_7 1 (by decide) rfl sw_301 dd_Reader_readNots_12 (fun x3 => fr_pc (pc' := 15) rfl ?_)
      refine fp_ldcS (i := 23) rfl (by decide) rfl rfl dd_Reader_readNots_15 (fr_pc (pc' := 17) rfl ?_)
      refine fr_callV (stk := []) (As := [.float (UInt32.ofNat 23)]) cl_9 (ok_Tokens_isWord x3 (UInt32.ofNat 23)) mt_Tokens_isWord rfl rfl sw_552 sw_553 sw_554 (by decide) (Nat.le_of_ble_eq_true rfl) dd_Reader_readNots_17 (fun x4 => fr_to (pc' := 20) (env' := [some (sf_rv p0), some (.int b1.1), some (.int b1.2)]) (stk' := [.int x4]) rfl rfl rfl ?_)
      refine fr_if_eq (tgt := 46) dd_Reader_readNots_20 rfl (fun _ => ?_) (fun _ => ?_)
      · refine fr_wk [true, true, false] ?_
        exact fr_ret rfl
      · refine fr_pc (pc' := 23) rfl ?_
        refine fp_aload_n (i := 0) (r := p0) dd_Reader_readNots_23 rfl rfl (fr_pc (pc' := 24) rfl ?_)
        refine fr_gR cl_7 1 (by decide) rfl sw_301 dd_Reader_readNots_24 (fun x6 => fr_pc (pc' := 27) rfl ?_)
        refine fr_callV (stk := []) (As := []) cl_9 (ok_Tokens_step x6) mt_Tokens_step rfl rfl sw_612 sw_613 sw_614 (by decide) (Nat.le_of_ble_eq_true rfl) dd_Reader_readNots_27 (fun u7 => fr_to (pc' := 30) (env' := [some (sf_rv p0), some (.int b1.1), some (.int b1.2)]) (stk' := []) rfl rfl rfl ?_)
        refine fp_iload_n (i := 1) (x := b1.1) dd_Reader_readNots_30 rfl rfl (fr_pc (pc' := 31) rfl ?_)
        refine fr_if_ne (tgt := 38) dd_Reader_readNots_31 rfl (fun _ => ?_) (fun _ => ?_)
        · refine fr_pc (pc' := 34) rfl ?_
          refine fp_iconst (v := (1 : Int32)) dd_Reader_readNots_34 (by decide) (fr_pc (pc' := 35) rfl ?_)
          refine fp_goto (tgt := 39) dd_Reader_readNots_35 rfl ?_
          refine fp_istore_n (i := 1) dd_Reader_readNots_39 rfl (Nat.le_of_ble_eq_true rfl) (fun _ => c1_r rfl) (fr_to (pc' := 40) (env' := [some (sf_rv p0), some (.int (1 : Int32)), some (.int b1.2)]) (stk' := []) rfl rfl rfl ?_)
          refine fr_niinc (i := 2) (x := b1.2) (w := (1 : Int32)) dd_Reader_readNots_40 rfl (by decide) (Nat.le_of_ble_eq_true rfl) (fun _ => c1_i rfl) (fun y9 => fr_to (pc' := 43) (env' := [some (sf_rv p0), some (.int (1 : Int32)), some (.int y9)]) (stk' := []) rfl rfl rfl ?_)
          refine fp_goto (tgt := 4) dd_Reader_readNots_43 rfl ?_
          exact fr_ret rfl
        · refine fp_iconst (v := (0 : Int32)) dd_Reader_readNots_38 (by decide) (fr_pc (pc' := 39) rfl ?_)
          refine fp_istore_n (i := 1) dd_Reader_readNots_39 rfl (Nat.le_of_ble_eq_true rfl) (fun _ => c1_r rfl) (fr_to (pc' := 40) (env' := [some (sf_rv p0), some (.int (0 : Int32)), some (.int b1.2)]) (stk' := []) rfl rfl rfl ?_)
          refine fr_niinc (i := 2) (x := b1.2) (w := (1 : Int32)) dd_Reader_readNots_40 rfl (by decide) (Nat.le_of_ble_eq_true rfl) (fun _ => c1_i rfl) (fun y10 => fr_to (pc' := 43) (env' := [some (sf_rv p0), some (.int (0 : Int32)), some (.int y10)]) (stk' := []) rfl rfl rfl ?_)
          refine fp_goto (tgt := 4) dd_Reader_readNots_43 rfl ?_
          exact fr_ret rfl
  · refine fp_iload_n (i := 1) (x := e11) dd_Reader_readNots_46 rfl rfl (fr_pc (pc' := 47) rfl ?_)
    exact fr_zret (r := fun x12 => x12) (fun _ => rfl) rfl dd_Reader_readNots_47
theorem mt_Reader_comparison : sf_Mt ({ cls := "SplitFares$Reader", name := "comparison", desc := "()I" } : Jvm.MethodName) prog_8_method_10_code 1 (some .int) 0 := ⟨sw_703, sw_9, ⟨by decide, by decide, by decide +kernel⟩, by decide⟩
theorem dd_Reader_comparison_0 : decode prog_8_method_10_code 0 = .ok (.aload_n 0, 1) := by decide +kernel
theorem dd_Reader_comparison_1 : decode prog_8_method_10_code 1 = .ok (.getfield 21, 3) := by decide +kernel
theorem dd_Reader_comparison_4 : decode prog_8_method_10_code 4 = .ok (.bipush 60, 2) := by decide +kernel
theorem dd_Reader_comparison_6 : decode prog_8_method_10_code 6 = .ok (.invokevirtual 70, 3) := by decide +kernel
theorem dd_Reader_comparison_9 : decode prog_8_method_10_code 9 = .ok (.ifCond .eq 6, 3) := by decide +kernel
theorem dd_Reader_comparison_12 : decode prog_8_method_10_code 12 = .ok (.bipush 10, 2) := by decide +kernel
theorem dd_Reader_comparison_14 : decode prog_8_method_10_code 14 = .ok (.ireturn, 1) := by decide +kernel
theorem dd_Reader_comparison_15 : decode prog_8_method_10_code 15 = .ok (.aload_n 0, 1) := by decide +kernel
theorem dd_Reader_comparison_16 : decode prog_8_method_10_code 16 = .ok (.getfield 21, 3) := by decide +kernel
theorem dd_Reader_comparison_19 : decode prog_8_method_10_code 19 = .ok (.bipush 62, 2) := by decide +kernel
theorem dd_Reader_comparison_21 : decode prog_8_method_10_code 21 = .ok (.invokevirtual 70, 3) := by decide +kernel
theorem dd_Reader_comparison_24 : decode prog_8_method_10_code 24 = .ok (.ifCond .eq 6, 3) := by decide +kernel
theorem dd_Reader_comparison_27 : decode prog_8_method_10_code 27 = .ok (.bipush 11, 2) := by decide +kernel
theorem dd_Reader_comparison_29 : decode prog_8_method_10_code 29 = .ok (.ireturn, 1) := by decide +kernel
theorem dd_Reader_comparison_30 : decode prog_8_method_10_code 30 = .ok (.aload_n 0, 1) := by decide +kernel
theorem dd_Reader_comparison_31 : decode prog_8_method_10_code 31 = .ok (.getfield 21, 3) := by decide +kernel
theorem dd_Reader_comparison_34 : decode prog_8_method_10_code 34 = .ok (.bipush 61, 2) := by decide +kernel
theorem dd_Reader_comparison_36 : decode prog_8_method_10_code 36 = .ok (.invokevirtual 70, 3) := by decide +kernel
theorem dd_Reader_comparison_39 : decode prog_8_method_10_code 39 = .ok (.ifCond .eq 8, 3) := by decide +kernel
theorem dd_Reader_comparison_42 : decode prog_8_method_10_code 42 = .ok (.bipush 12, 2) := by decide +kernel
theorem dd_Reader_comparison_44 : decode prog_8_method_10_code 44 = .ok (.goto 4, 3) := by decide +kernel
theorem dd_Reader_comparison_47 : decode prog_8_method_10_code 47 = .ok (.iconst (-1), 1) := by decide +kernel
theorem dd_Reader_comparison_48 : decode prog_8_method_10_code 48 = .ok (.ireturn, 1) := by decide +kernel
def jx_Reader_comparison (p0 : Option Nat) : sf_M (Int32) :=
  sf_bnd (sf_gR 7 1 p0) fun x1 =>
  sf_bnd (sf_rc 9 x1 (jx_Tokens_isSign x1 (60 : Int32))) fun x2 =>
  if x2 = 0 then (
  sf_bnd (sf_gR 7 1 p0) fun x4 =>
  sf_bnd (sf_rc 9 x4 (jx_Tokens_isSign x4 (62 : Int32))) fun x5 =>
  if x5 = 0 then (
  sf_bnd (sf_gR 7 1 p0) fun x7 =>
  sf_bnd (sf_rc 9 x7 (jx_Tokens_isSign x7 (61 : Int32))) fun x8 =>
  if x8 = 0 then (
  sf_ret (-1 : Int32)
  ) else (
  sf_ret (12 : Int32)
  )
  ) else (
  sf_ret (11 : Int32)
  )
  ) else (
  sf_ret (10 : Int32)
  )
set_option maxRecDepth 20000 in
set_option maxHeartbeats 4000000 in
theorem ok_Reader_comparison (p0 : Option Nat) : sf_Ok ({ cls := "SplitFares$Reader", name := "comparison", desc := "()I" } : Jvm.MethodName) prog_8_method_10_code 1 (some .int) 2 [sf_rv p0] (jx_Reader_comparison p0) (fun r => some (.int r)) := by
  refine sf_Ok.of (env := [some (sf_rv p0)]) (plainFor_of_name (by decide)) [false] (fun G => ⟨pk_r, trivial⟩) (Nat.le_of_ble_eq_true rfl) rfl (fun X => ?_)
  unfold jx_Reader_comparison
  refine fp_aload_n (i := 0) (r := p0) dd_Reader_comparison_0 rfl rfl (fr_pc (pc' := 1) rfl ?_)
  refine fr_gR cl_7 1 (by decide) rfl sw_301 dd_Reader_comparison_1 (fun x1 => fr_pc (pc' := 4) rfl ?_)
  refine fp_bipush (v := (60 : Int32)) dd_Reader_comparison_4 (by decide) (fr_pc (pc' := 6) rfl ?_)
  refine fr_callV (stk := []) (As := [.int (60 : Int32)]) cl_9 (ok_Tokens_isSign x1 (60 : Int32)) mt_Tokens_isSign rfl rfl sw_635 sw_636 sw_637 (by decide) (Nat.le_of_ble_eq_true rfl) dd_Reader_comparison_6 (fun x2 => fr_to (pc' := 9) (env' := [some (sf_rv p0)]) (stk' := [.int x2]) rfl rfl rfl ?_)
  refine fr_if_eq (tgt := 15) dd_Reader_comparison_9 rfl (fun _ => ?_) (fun _ => ?_)
  · refine fp_aload_n (i := 0) (r := p0) dd_Reader_comparison_15 rfl rfl (fr_pc (pc' := 16) rfl ?_)
    refine fr_gR cl_7 1 (by decide) rfl sw_301 dd_Reader_comparison_16 (fun x4 => fr_pc (pc' := 19) rfl ?_)
    refine fp_bipush (v := (62 : Int32)) dd_Reader_comparison_19 (by decide) (fr_pc (pc' := 21) rfl ?_)
    refine fr_callV (stk := []) (As := [.int (62 : Int32)]) cl_9 (ok_Tokens_isSign x4 (62 : Int32)) mt_Tokens_isSign rfl rfl sw_635 sw_636 sw_637 (by decide) (Nat.le_of_ble_eq_true rfl) dd_Reader_comparison_21 (fun x5 => fr_to (pc' := 24) (env' := [some (sf_rv p0)]) (stk' := [.int x5]) rfl rfl rfl ?_)
    refine fr_if_eq (tgt := 30) dd_Reader_comparison_24 rfl (fun _ => ?_) (fun _ => ?_)
    · refine fp_aload_n (i := 0) (r := p0) dd_Reader_comparison_30 rfl rfl (fr_pc (pc' := 31) rfl ?_)
      refine fr_gR cl_7 1 (by decide) rfl sw_301 dd_Reader_comparison_31 (fun x7 => fr_pc (pc' := 34) rfl ?_)
      refine fp_bipush (v := (61 : Int32)) dd_Reader_comparison_34 (by decide) (fr_pc (pc' := 36) rfl ?_)
      refine fr_callV (stk := []) (As := [.int (61 : Int32)]) cl_9 (ok_Tokens_isSign x7 (61 : Int32)) mt_Tokens_isSign rfl rfl sw_635 sw_636 sw_637 (by decide) (Nat.le_of_ble_eq_true rfl) dd_Reader_comparison_36 (fun x8 => fr_to (pc' := 39) (env' := [some (sf_rv p0)]) (stk' := [.int x8]) rfl rfl rfl ?_)
      refine fr_if_eq (tgt := 47) dd_Reader_comparison_39 rfl (fun _ => ?_) (fun _ => ?_)
      · refine fp_iconst (v := (-1 : Int32)) dd_Reader_comparison_47 (by decide) (fr_pc (pc' := 48) rfl ?_)
        exact fr_iret (v := (-1 : Int32)) rfl rfl dd_Reader_comparison_48
      · refine fr_pc (pc' := 42) rfl ?_
        refine fp_bipush (v := (12 : Int32)) dd_Reader_comparison_42 (by decide) (fr_pc (pc' := 44) rfl ?_)
        refine fp_goto (tgt := 48) dd_Reader_comparison_44 rfl ?_
        exact fr_iret (v := (12 : Int32)) rfl rfl dd_Reader_comparison_48
    · refine fr_pc (pc' := 27) rfl ?_
      refine fp_bipush (v := (11 : Int32)) dd_Reader_comparison_27 (by decide) (fr_pc (pc' := 29) rfl ?_)
      exact fr_iret (v := (11 : Int32)) rfl rfl dd_Reader_comparison_29
  · refine fr_pc (pc' := 12) rfl ?_
    refine fp_bipush (v := (10 : Int32)) dd_Reader_comparison_12 (by decide) (fr_pc (pc' := 14) rfl ?_)
    exact fr_iret (v := (10 : Int32)) rfl rfl dd_Reader_comparison_14
theorem mt_Reader_readTest : sf_Mt ({ cls := "SplitFares$Reader", name := "readTest", desc := "(LSplitFares$Reader;II)Z" } : Jvm.MethodName) prog_8_method_8_code 8 (some .boolean) 3 := ⟨sw_688, sw_9, ⟨by decide, by decide, by decide +kernel⟩, by decide⟩
theorem dd_Reader_readTest_0 : decode prog_8_method_8_code 0 = .ok (.aload_n 0, 1) := by decide +kernel
theorem dd_Reader_readTest_1 : decode prog_8_method_8_code 1 = .ok (.getfield 21, 3) := by decide +kernel
theorem dd_Reader_readTest_4 : decode prog_8_method_8_code 4 = .ok (.astore_n 3, 1) := by decide +kernel
theorem dd_Reader_readTest_5 : decode prog_8_method_8_code 5 = .ok (.iload_n 1, 1) := by decide +kernel
theorem dd_Reader_readTest_6 : decode prog_8_method_8_code 6 = .ok (.iconst 2, 1) := by decide +kernel
theorem dd_Reader_readTest_7 : decode prog_8_method_8_code 7 = .ok (.if_icmp .ge 102, 3) := by decide +kernel
theorem dd_Reader_readTest_10 : decode prog_8_method_8_code 10 = .ok (.iload_n 1, 1) := by decide +kernel
theorem dd_Reader_readTest_11 : decode prog_8_method_8_code 11 = .ok (.ifCond .ne 8, 3) := by decide +kernel
theorem dd_Reader_readTest_14 : decode prog_8_method_8_code 14 = .ok (.ldc 115, 2) := by decide +kernel
theorem dd_Reader_readTest_16 : decode prog_8_method_8_code 16 = .ok (.goto 5, 3) := by decide +kernel
theorem dd_Reader_readTest_19 : decode prog_8_method_8_code 19 = .ok (.ldc 117, 2) := by decide +kernel
theorem dd_Reader_readTest_21 : decode prog_8_method_8_code 21 = .ok (.astore 4, 2) := by decide +kernel
theorem dd_Reader_readTest_23 : decode prog_8_method_8_code 23 = .ok (.aload_n 0, 1) := by decide +kernel
theorem dd_Reader_readTest_24 : decode prog_8_method_8_code 24 = .ok (.iload_n 1, 1) := by decide +kernel
theorem dd_Reader_readTest_25 : decode prog_8_method_8_code 25 = .ok (.iconst 1, 1) := by decide +kernel
theorem dd_Reader_readTest_26 : decode prog_8_method_8_code 26 = .ok (.iadd, 1) := by decide +kernel
theorem dd_Reader_readTest_27 : decode prog_8_method_8_code 27 = .ok (.iload_n 2, 1) := by decide +kernel
theorem dd_Reader_readTest_28 : decode prog_8_method_8_code 28 = .ok (.invokestatic 60, 3) := by decide +kernel
theorem dd_Reader_readTest_31 : decode prog_8_method_8_code 31 = .ok (.istore 5, 2) := by decide +kernel
theorem dd_Reader_readTest_33 : decode prog_8_method_8_code 33 = .ok (.iconst 0, 1) := by decide +kernel
theorem dd_Reader_readTest_34 : decode prog_8_method_8_code 34 = .ok (.istore 6, 2) := by decide +kernel
theorem dd_Reader_readTest_36 : decode prog_8_method_8_code 36 = .ok (.iload 6, 2) := by decide +kernel
theorem dd_Reader_readTest_38 : decode prog_8_method_8_code 38 = .ok (.sipush 400, 3) := by decide +kernel
theorem dd_Reader_readTest_41 : decode prog_8_method_8_code 41 = .ok (.if_icmp .ge 65, 3) := by decide +kernel
theorem dd_Reader_readTest_44 : decode prog_8_method_8_code 44 = .ok (.iload 5, 2) := by decide +kernel
theorem dd_Reader_readTest_46 : decode prog_8_method_8_code 46 = .ok (.ifCond .eq 60, 3) := by decide +kernel
theorem dd_Reader_readTest_49 : decode prog_8_method_8_code 49 = .ok (.aload_n 3, 1) := by decide +kernel
theorem dd_Reader_readTest_50 : decode prog_8_method_8_code 50 = .ok (.aload 4, 2) := by decide +kernel
theorem dd_Reader_readTest_52 : decode prog_8_method_8_code 52 = .ok (.invokevirtual 53, 3) := by decide +kernel
theorem dd_Reader_readTest_55 : decode prog_8_method_8_code 55 = .ok (.ifCond .eq 51, 3) := by decide +kernel
theorem dd_Reader_readTest_58 : decode prog_8_method_8_code 58 = .ok (.aload_n 3, 1) := by decide +kernel
theorem dd_Reader_readTest_59 : decode prog_8_method_8_code 59 = .ok (.invokevirtual 57, 3) := by decide +kernel
theorem dd_Reader_readTest_62 : decode prog_8_method_8_code 62 = .ok (.aload_n 0, 1) := by decide +kernel
theorem dd_Reader_readTest_63 : decode prog_8_method_8_code 63 = .ok (.getfield 12, 3) := by decide +kernel
theorem dd_Reader_readTest_66 : decode prog_8_method_8_code 66 = .ok (.iload_n 1, 1) := by decide +kernel
theorem dd_Reader_readTest_67 : decode prog_8_method_8_code 67 = .ok (.ifCond .ne 7, 3) := by decide +kernel
theorem dd_Reader_readTest_70 : decode prog_8_method_8_code 70 = .ok (.iconst 3, 1) := by decide +kernel
theorem dd_Reader_readTest_71 : decode prog_8_method_8_code 71 = .ok (.goto 4, 3) := by decide +kernel
theorem dd_Reader_readTest_74 : decode prog_8_method_8_code 74 = .ok (.iconst 4, 1) := by decide +kernel
theorem dd_Reader_readTest_75 : decode prog_8_method_8_code 75 = .ok (.iconst 0, 1) := by decide +kernel
theorem dd_Reader_readTest_76 : decode prog_8_method_8_code 76 = .ok (.invokevirtual 119, 3) := by decide +kernel
theorem dd_Reader_readTest_79 : decode prog_8_method_8_code 79 = .ok (.istore 7, 2) := by decide +kernel
theorem dd_Reader_readTest_81 : decode prog_8_method_8_code 81 = .ok (.aload_n 0, 1) := by decide +kernel
theorem dd_Reader_readTest_82 : decode prog_8_method_8_code 82 = .ok (.iload_n 1, 1) := by decide +kernel
theorem dd_Reader_readTest_83 : decode prog_8_method_8_code 83 = .ok (.iconst 1, 1) := by decide +kernel
theorem dd_Reader_readTest_84 : decode prog_8_method_8_code 84 = .ok (.iadd, 1) := by decide +kernel
theorem dd_Reader_readTest_85 : decode prog_8_method_8_code 85 = .ok (.iload_n 2, 1) := by decide +kernel
theorem dd_Reader_readTest_86 : decode prog_8_method_8_code 86 = .ok (.invokestatic 60, 3) := by decide +kernel
theorem dd_Reader_readTest_89 : decode prog_8_method_8_code 89 = .ok (.istore 5, 2) := by decide +kernel
theorem dd_Reader_readTest_91 : decode prog_8_method_8_code 91 = .ok (.aload_n 0, 1) := by decide +kernel
theorem dd_Reader_readTest_92 : decode prog_8_method_8_code 92 = .ok (.getfield 12, 3) := by decide +kernel
theorem dd_Reader_readTest_95 : decode prog_8_method_8_code 95 = .ok (.iload 7, 2) := by decide +kernel
theorem dd_Reader_readTest_97 : decode prog_8_method_8_code 97 = .ok (.invokevirtual 123, 3) := by decide +kernel
theorem dd_Reader_readTest_100 : decode prog_8_method_8_code 100 = .ok (.iinc 6 1, 3) := by decide +kernel
theorem dd_Reader_readTest_103 : decode prog_8_method_8_code 103 = .ok (.goto (-67), 3) := by decide +kernel
theorem dd_Reader_readTest_106 : decode prog_8_method_8_code 106 = .ok (.iload 5, 2) := by decide +kernel
theorem dd_Reader_readTest_108 : decode prog_8_method_8_code 108 = .ok (.ireturn, 1) := by decide +kernel
theorem dd_Reader_readTest_109 : decode prog_8_method_8_code 109 = .ok (.aload_n 0, 1) := by decide +kernel
theorem dd_Reader_readTest_110 : decode prog_8_method_8_code 110 = .ok (.invokevirtual 126, 3) := by decide +kernel
theorem dd_Reader_readTest_113 : decode prog_8_method_8_code 113 = .ok (.istore 4, 2) := by decide +kernel
theorem dd_Reader_readTest_115 : decode prog_8_method_8_code 115 = .ok (.aload_n 3, 1) := by decide +kernel
theorem dd_Reader_readTest_116 : decode prog_8_method_8_code 116 = .ok (.bipush 40, 2) := by decide +kernel
theorem dd_Reader_readTest_118 : decode prog_8_method_8_code 118 = .ok (.invokevirtual 70, 3) := by decide +kernel
theorem dd_Reader_readTest_121 : decode prog_8_method_8_code 121 = .ok (.ifCond .eq 44, 3) := by decide +kernel
theorem dd_Reader_readTest_124 : decode prog_8_method_8_code 124 = .ok (.iload_n 2, 1) := by decide +kernel
theorem dd_Reader_readTest_125 : decode prog_8_method_8_code 125 = .ok (.bipush 8, 2) := by decide +kernel
theorem dd_Reader_readTest_127 : decode prog_8_method_8_code 127 = .ok (.if_icmp .lt 5, 3) := by decide +kernel
theorem dd_Reader_readTest_130 : decode prog_8_method_8_code 130 = .ok (.iconst 0, 1) := by decide +kernel
theorem dd_Reader_readTest_131 : decode prog_8_method_8_code 131 = .ok (.ireturn, 1) := by decide +kernel
theorem dd_Reader_readTest_132 : decode prog_8_method_8_code 132 = .ok (.aload_n 3, 1) := by decide +kernel
theorem dd_Reader_readTest_133 : decode prog_8_method_8_code 133 = .ok (.invokevirtual 57, 3) := by decide +kernel
theorem dd_Reader_readTest_136 : decode prog_8_method_8_code 136 = .ok (.aload_n 0, 1) := by decide +kernel
theorem dd_Reader_readTest_137 : decode prog_8_method_8_code 137 = .ok (.iconst 0, 1) := by decide +kernel
theorem dd_Reader_readTest_138 : decode prog_8_method_8_code 138 = .ok (.iload_n 2, 1) := by decide +kernel
theorem dd_Reader_readTest_139 : decode prog_8_method_8_code 139 = .ok (.iconst 1, 1) := by decide +kernel
theorem dd_Reader_readTest_140 : decode prog_8_method_8_code 140 = .ok (.iadd, 1) := by decide +kernel
theorem dd_Reader_readTest_141 : decode prog_8_method_8_code 141 = .ok (.invokestatic 60, 3) := by decide +kernel
theorem dd_Reader_readTest_144 : decode prog_8_method_8_code 144 = .ok (.ifCond .eq 12, 3) := by decide +kernel
theorem dd_Reader_readTest_147 : decode prog_8_method_8_code 147 = .ok (.aload_n 3, 1) := by decide +kernel
theorem dd_Reader_readTest_148 : decode prog_8_method_8_code 148 = .ok (.bipush 41, 2) := by decide +kernel
theorem dd_Reader_readTest_150 : decode prog_8_method_8_code 150 = .ok (.invokevirtual 70, 3) := by decide +kernel
theorem dd_Reader_readTest_153 : decode prog_8_method_8_code 153 = .ok (.ifCond .ne 5, 3) := by decide +kernel
theorem dd_Reader_readTest_158 : decode prog_8_method_8_code 158 = .ok (.aload_n 3, 1) := by decide +kernel
theorem dd_Reader_readTest_159 : decode prog_8_method_8_code 159 = .ok (.invokevirtual 57, 3) := by decide +kernel
theorem dd_Reader_readTest_162 : decode prog_8_method_8_code 162 = .ok (.goto 54, 3) := by decide +kernel
theorem dd_Reader_readTest_156 : decode prog_8_method_8_code 156 = .ok (.iconst 0, 1) := by decide +kernel
theorem dd_Reader_readTest_157 : decode prog_8_method_8_code 157 = .ok (.ireturn, 1) := by decide +kernel
theorem dd_Reader_readTest_165 : decode prog_8_method_8_code 165 = .ok (.aload_n 0, 1) := by decide +kernel
theorem dd_Reader_readTest_166 : decode prog_8_method_8_code 166 = .ok (.iconst 0, 1) := by decide +kernel
theorem dd_Reader_readTest_167 : decode prog_8_method_8_code 167 = .ok (.iload_n 2, 1) := by decide +kernel
theorem dd_Reader_readTest_168 : decode prog_8_method_8_code 168 = .ok (.invokestatic 82, 3) := by decide +kernel
theorem dd_Reader_readTest_171 : decode prog_8_method_8_code 171 = .ok (.ifCond .ne 5, 3) := by decide +kernel
theorem dd_Reader_readTest_174 : decode prog_8_method_8_code 174 = .ok (.iconst 0, 1) := by decide +kernel
theorem dd_Reader_readTest_175 : decode prog_8_method_8_code 175 = .ok (.ireturn, 1) := by decide +kernel
theorem dd_Reader_readTest_176 : decode prog_8_method_8_code 176 = .ok (.aload_n 0, 1) := by decide +kernel
theorem dd_Reader_readTest_177 : decode prog_8_method_8_code 177 = .ok (.invokevirtual 129, 3) := by decide +kernel
theorem dd_Reader_readTest_180 : decode prog_8_method_8_code 180 = .ok (.istore 5, 2) := by decide +kernel
theorem dd_Reader_readTest_182 : decode prog_8_method_8_code 182 = .ok (.iload 5, 2) := by decide +kernel
theorem dd_Reader_readTest_184 : decode prog_8_method_8_code 184 = .ok (.iconst (-1), 1) := by decide +kernel
theorem dd_Reader_readTest_185 : decode prog_8_method_8_code 185 = .ok (.if_icmp .ne 5, 3) := by decide +kernel
theorem dd_Reader_readTest_188 : decode prog_8_method_8_code 188 = .ok (.iconst 0, 1) := by decide +kernel
theorem dd_Reader_readTest_189 : decode prog_8_method_8_code 189 = .ok (.ireturn, 1) := by decide +kernel
theorem dd_Reader_readTest_190 : decode prog_8_method_8_code 190 = .ok (.aload_n 3, 1) := by decide +kernel
theorem dd_Reader_readTest_191 : decode prog_8_method_8_code 191 = .ok (.invokevirtual 57, 3) := by decide +kernel
theorem dd_Reader_readTest_194 : decode prog_8_method_8_code 194 = .ok (.aload_n 0, 1) := by decide +kernel
theorem dd_Reader_readTest_195 : decode prog_8_method_8_code 195 = .ok (.iconst 0, 1) := by decide +kernel
theorem dd_Reader_readTest_196 : decode prog_8_method_8_code 196 = .ok (.iload_n 2, 1) := by decide +kernel
theorem dd_Reader_readTest_197 : decode prog_8_method_8_code 197 = .ok (.invokestatic 82, 3) := by decide +kernel
theorem dd_Reader_readTest_200 : decode prog_8_method_8_code 200 = .ok (.ifCond .ne 5, 3) := by decide +kernel
theorem dd_Reader_readTest_203 : decode prog_8_method_8_code 203 = .ok (.iconst 0, 1) := by decide +kernel
theorem dd_Reader_readTest_204 : decode prog_8_method_8_code 204 = .ok (.ireturn, 1) := by decide +kernel
theorem dd_Reader_readTest_205 : decode prog_8_method_8_code 205 = .ok (.aload_n 0, 1) := by decide +kernel
theorem dd_Reader_readTest_206 : decode prog_8_method_8_code 206 = .ok (.getfield 12, 3) := by decide +kernel
theorem dd_Reader_readTest_209 : decode prog_8_method_8_code 209 = .ok (.iload 5, 2) := by decide +kernel
theorem dd_Reader_readTest_211 : decode prog_8_method_8_code 211 = .ok (.iconst 0, 1) := by decide +kernel
theorem dd_Reader_readTest_212 : decode prog_8_method_8_code 212 = .ok (.invokevirtual 119, 3) := by decide +kernel
theorem dd_Reader_readTest_215 : decode prog_8_method_8_code 215 = .ok (.pop, 1) := by decide +kernel
theorem dd_Reader_readTest_216 : decode prog_8_method_8_code 216 = .ok (.iload 4, 2) := by decide +kernel
theorem dd_Reader_readTest_218 : decode prog_8_method_8_code 218 = .ok (.ifCond .eq 13, 3) := by decide +kernel
theorem dd_Reader_readTest_221 : decode prog_8_method_8_code 221 = .ok (.aload_n 0, 1) := by decide +kernel
theorem dd_Reader_readTest_222 : decode prog_8_method_8_code 222 = .ok (.getfield 12, 3) := by decide +kernel
theorem dd_Reader_readTest_225 : decode prog_8_method_8_code 225 = .ok (.iconst 2, 1) := by decide +kernel
theorem dd_Reader_readTest_226 : decode prog_8_method_8_code 226 = .ok (.iconst 0, 1) := by decide +kernel
theorem dd_Reader_readTest_227 : decode prog_8_method_8_code 227 = .ok (.invokevirtual 119, 3) := by decide +kernel
theorem dd_Reader_readTest_230 : decode prog_8_method_8_code 230 = .ok (.pop, 1) := by decide +kernel
theorem dd_Reader_readTest_231 : decode prog_8_method_8_code 231 = .ok (.iconst 1, 1) := by decide +kernel
theorem dd_Reader_readTest_232 : decode prog_8_method_8_code 232 = .ok (.ireturn, 1) := by decide +kernel
def jb_Reader_readTest (R : Nat → Option Nat → Int32 → Int32 → sf_M (Int32)) (p0 : Option Nat) (p1 : Int32) (p2 : Int32) : sf_M (Int32) :=
  sf_bnd (sf_gR 7 1 p0) fun x1 =>
  if (2 : Int32) ≤ p1 then (
  sf_bnd (sf_rc 7 p0 (jx_Reader_readNots p0)) fun x3 =>
  sf_bnd (sf_rc 9 x1 (jx_Tokens_isSign x1 (40 : Int32))) fun x4 =>
  sf_or (α := Int32) (β := (Unit)) (
  if x4 = 0 then (
  sf_bnd (jx_G0 sf_deep 0 p0 (0 : Int32) p2) fun x6 =>
  if x6 = 0 then (
  sf_ret (.inl (0 : Int32))
  ) else (
  sf_bnd (sf_rc 7 p0 (jx_Reader_comparison p0)) fun x8 =>
  if x8 = (-1 : Int32) then (
  sf_ret (.inl (0 : Int32))
  ) else (
  sf_bnd (sf_rc 9 x1 (jx_Tokens_step x1)) fun _ =>
  sf_bnd (jx_G0 sf_deep 0 p0 (0 : Int32) p2) fun x11 =>
  if x11 = 0 then (
  sf_ret (.inl (0 : Int32))
  ) else (
  sf_bnd (sf_gR 7 0 p0) fun x13 =>
  sf_bnd (sf_rc 6 x13 (jx_Program_put x13 x8 (0 : Int32))) fun x14 =>
  sf_ret (.inr ())
  )
  )
  )
  ) else (
  if p2 < (8 : Int32) then (
  sf_bnd (sf_rc 9 x1 (jx_Tokens_step x1)) fun _ =>
  sf_bnd (R 0 p0 (0 : Int32) (p2 + (1 : Int32))) fun x17 =>
  if x17 = 0 then (
  sf_ret (.inl (0 : Int32))
  ) else (
  sf_bnd (sf_rc 9 x1 (jx_Tokens_isSign x1 (41 : Int32))) fun x19 =>
  if x19 = 0 then (
  sf_ret (.inl (0 : Int32))
  ) else (
  sf_bnd (sf_rc 9 x1 (jx_Tokens_step x1)) fun _ =>
  sf_ret (.inr ())
  )
  )
  ) else (
  sf_ret (.inl (0 : Int32))
  )
  )
  ) (fun v22 =>
  if x3 = 0 then (
  sf_ret (1 : Int32)
  ) else (
  sf_bnd (sf_gR 7 0 p0) fun x24 =>
  sf_bnd (sf_rc 6 x24 (jx_Program_put x24 (2 : Int32) (0 : Int32))) fun x25 =>
  sf_ret (1 : Int32)
  )
  )
  ) else (
  sf_bnd (α := (UInt32)) (
  if p1 = 0 then (
  sf_ret (UInt32.ofNat 21)
  ) else (
  sf_ret (UInt32.ofNat 22)
  )
  ) (fun v27 =>
  sf_bnd (R 0 p0 (p1 + (1 : Int32)) p2) fun x28 =>
  sf_bnd (sf_loop (β := (Int32 × Int32)) (γ := (Int32)) (fun b29 =>
  if (400 : Int32) ≤ b29.2 then (
  sf_ret (.inr b29.1)
  ) else (
  if b29.1 = 0 then (
  sf_ret (.inr b29.1)
  ) else (
  sf_bnd (sf_rc 9 x1 (jx_Tokens_isWord x1 v27)) fun x32 =>
  if x32 = 0 then (
  sf_ret (.inr b29.1)
  ) else (
  sf_bnd (sf_rc 9 x1 (jx_Tokens_step x1)) fun _ =>
  sf_bnd (sf_gR 7 0 p0) fun x35 =>
  sf_bnd (α := (Int32)) (
  if p1 = 0 then (
  sf_ret (3 : Int32)
  ) else (
  sf_ret (4 : Int32)
  )
  ) (fun v37 =>
  sf_bnd (sf_rc 6 x35 (jx_Program_put x35 v37 (0 : Int32))) fun x38 =>
  sf_bnd (R 0 p0 (p1 + (1 : Int32)) p2) fun x39 =>
  sf_bnd (sf_gR 7 0 p0) fun x40 =>
  sf_bnd (sf_rc 6 x40 (jx_Program_aim x40 x38)) fun _ =>
  sf_bnd (sf_ret (b29.2 + (1 : Int32))) fun y42 =>
  sf_ret (.inl (x39, y42))
  )
  )
  )
  )
  ) sf_fuel (x28, (0 : Int32))) (fun e43 =>
  sf_bnd (sf_rz e43) fun x44 =>
  sf_ret x44
  )
  )
  )
set_option maxRecDepth 20000 in
set_option maxHeartbeats 4000000 in
theorem okb_Reader_readTest (n : Nat) (R : Nat → Option Nat → Int32 → Int32 → sf_M (Int32)) (hR_Reader_readTest : ∀ (a0 : Option Nat) (a1 : Int32) (a2 : Int32), sf_Ok ({ cls := "SplitFares$Reader", name := "readTest", desc := "(LSplitFares$Reader;II)Z" } : Jvm.MethodName) prog_8_method_8_code 8 (some .boolean) (110 + n) [sf_rv a0, .int a1, .int a2] (R 0 a0 a1 a2) (fun r => some (.int r))) (p0 : Option Nat) (p1 : Int32) (p2 : Int32) : sf_Ok ({ cls := "SplitFares$Reader", name := "readTest", desc := "(LSplitFares$Reader;II)Z" } : Jvm.MethodName) prog_8_method_8_code 8 (some .boolean) (110 + n + 1) [sf_rv p0, .int p1, .int p2] (jb_Reader_readTest R p0 p1 p2) (fun r => some (.int r)) := by
  refine sf_Ok.of (env := [some (sf_rv p0), some (.int p1), some (.int p2), none, none, none, none, none]) (plainFor_of_name (by decide)) [false, false, false] (fun G => ⟨pk_r, pk_i, pk_i, trivial⟩) (Nat.le_of_ble_eq_true rfl) rfl (fun X => ?_)
  unfold jb_Reader_readTest
  refine fp_aload_n (i := 0) (r := p0) dd_Reader_readTest_0 rfl rfl (fr_pc (pc' := 1) rfl ?_)
  refine fr_gR cl_7 1 (by decide) rfl sw_301 dd_Reader_readTest_1 (fun x1 => fr_pc (pc' := 4) rfl ?_)
  refine fp_astore_n (i := 3) dd_Reader_readTest_4 rfl (Nat.le_of_ble_eq_true rfl) (fun _ => c1_i rfl) (fr_to (pc' := 5) (env' := [some (sf_rv p0), some (.int p1), some (.int p2), some (sf_rv x1), none, none, none, none]) (stk' := []) rfl rfl rfl ?_)
  refine fp_iload_n (i := 1) (x := p1) dd_Reader_readTest_5 rfl rfl (fr_pc (pc' := 6) rfl ?_)
  refine fp_iconst (v := (2 : Int32)) dd_Reader_readTest_6 (by decide) (fr_pc (pc' := 7) rfl ?_)
  refine fr_icmp_ge (tgt := 109) dd_Reader_readTest_7 rfl (fun _ => ?_) (fun _ => ?_)
  · refine fp_aload_n (i := 0) (r := p0) dd_Reader_readTest_109 rfl rfl (fr_pc (pc' := 110) rfl ?_)
    refine fr_callV (stk := []) (As := []) cl_7 (ok_Reader_readNots p0) mt_Reader_readNots rfl rfl sw_695 sw_697 sp_15 (by dsimp only [sf_deep]; omega) (Nat.le_of_ble_eq_true rfl) dd_Reader_readTest_110 (fun x3 => fr_to (pc' := 113) (env' := [some (sf_rv p0), some (.int p1), some (.int p2), some (sf_rv x1), none, none, none, none]) (stk' := [.int x3]) rfl rfl rfl ?_)
    refine fp_istore (i := 4) dd_Reader_readTest_113 (Nat.le_of_ble_eq_true rfl) (fun _ => c1_r rfl) (fr_to (pc' := 115) (env' := [some (sf_rv p0), some (.int p1), some (.int p2), some (sf_rv x1), some (.int x3), none, none, none]) (stk' := []) rfl rfl rfl ?_)
    refine fp_aload_n (i := 3) (r := x1) dd_Reader_readTest_115 rfl rfl (fr_pc (pc' := 116) rfl ?_)
    refine fp_bipush (v := (40 : Int32)) dd_Reader_readTest_116 (by decide) (fr_pc (pc' := 118) rfl ?_)
    refine fr_callV (stk := []) (As := [.int (40 : Int32)]) cl_9 (ok_Tokens_isSign x1 (40 : Int32)) mt_Tokens_isSign rfl rfl sw_635 sw_636 sw_637 (by dsimp only [sf_deep]; omega) (Nat.le_of_ble_eq_true rfl) dd_Reader_readTest_118 (fun x4 => fr_to (pc' := 121) (env' := [some (sf_rv p0), some (.int p1), some (.int p2), some (sf_rv x1), some (.int x3), none, none, none]) (stk' := [.int x4]) rfl rfl rfl ?_)
    refine fr_or (l1 := (fun (v22 : (Unit)) => sf_p 216 [some (sf_rv p0), some (.int p1), some (.int p2), some (sf_rv x1), some (.int x3), none, none, none] [])) ?_ (fun v22 => ?_)
    · refine fr_if_eq (tgt := 165) dd_Reader_readTest_121 rfl (fun _ => ?_) (fun _ => ?_)
      · refine fp_aload_n (i := 0) (r := p0) dd_Reader_readTest_165 rfl rfl (fr_pc (pc' := 166) rfl ?_)
        refine fp_iconst (v := (0 : Int32)) dd_Reader_readTest_166 (by decide) (fr_pc (pc' := 167) rfl ?_)
        refine fp_iload_n (i := 2) (x := p2) dd_Reader_readTest_167 rfl rfl (fr_pc (pc' := 168) rfl ?_)
        refine fr_callS (stk := []) (ok_Reader_readSum sf_deep p0 (0 : Int32) p2) mt_Reader_readSum rfl rfl sw_628 sw_629 (by dsimp only [sf_deep]; omega) (Nat.le_of_ble_eq_true rfl) dd_Reader_readTest_168 (fun x6 => fr_to (pc' := 171) (env' := [some (sf_rv p0), some (.int p1), some (.int p2), some (sf_rv x1), some (.int x3), none, none, none]) (stk' := [.int x6]) rfl rfl rfl ?_)
        refine fr_if_ne (tgt := 176) dd_Reader_readTest_171 rfl (fun _ => ?_) (fun _ => ?_)
        · refine fr_pc (pc' := 174) rfl ?_
          refine fp_iconst (v := (0 : Int32)) dd_Reader_readTest_174 (by decide) (fr_pc (pc' := 175) rfl ?_)
          exact fr_zret0 (v := (0 : Int32)) (Or.inl rfl) rfl rfl dd_Reader_readTest_175
        · refine fp_aload_n (i := 0) (r := p0) dd_Reader_readTest_176 rfl rfl (fr_pc (pc' := 177) rfl ?_)
          refine fr_callV (stk := []) (As := []) cl_7 (ok_Reader_comparison p0) mt_Reader_comparison rfl rfl sw_700 sw_702 sp_16 (by dsimp only [sf_deep]; omega) (Nat.le_of_ble_eq_true rfl) dd_Reader_readTest_177 (fun x8 => fr_to (pc' := 180) (env' := [some (sf_rv p0), some (.int p1), some (.int p2), some (sf_rv x1), some (.int x3), none, none, none]) (stk' := [.int x8]) rfl rfl rfl ?_)
          refine fp_istore (i := 5) dd_Reader_readTest_180 (Nat.le_of_ble_eq_true rfl) (fun _ => c1_i rfl) (fr_to (pc' := 182) (env' := [some (sf_rv p0), some (.int p1), some (.int p2), some (sf_rv x1), some (.int x3), some (.int x8), none, none]) (stk' := []) rfl rfl rfl ?_)
          refine fp_iload (i := 5) (x := x8) dd_Reader_readTest_182 rfl (fr_pc (pc' := 184) rfl ?_)
          refine fp_iconst (v := (-1 : Int32)) dd_Reader_readTest_184 (by decide) (fr_pc (pc' := 185) rfl ?_)
          refine fr_icmp_ne (tgt := 190) dd_Reader_readTest_185 rfl (fun _ => ?_) (fun _ => ?_)
          · refine fr_pc (pc' := 188) rfl ?_
            refine fp_iconst (v := (0 : Int32)) dd_Reader_readTest_188 (by decide) (fr_pc (pc' := 189) rfl ?_)
            exact fr_zret0 (v := (0 : Int32)) (Or.inl rfl) rfl rfl dd_Reader_readTest_189
          · refine fp_aload_n (i := 3) (r := x1) dd_Reader_readTest_190 rfl rfl (fr_pc (pc' := 191) rfl ?_)
            refine fr_callV (stk := []) (As := []) cl_9 (ok_Tokens_step x1) mt_Tokens_step rfl rfl sw_612 sw_613 sw_614 (by dsimp only [sf_deep]; omega) (Nat.le_of_ble_eq_true rfl) dd_Reader_readTest_191 (fun u10 => fr_to (pc' := 194) (env' := [some (sf_rv p0), some (.int p1), some (.int p2), some (sf_rv x1), some (.int x3), some (.int x8), none, none]) (stk' := []) rfl rfl rfl ?_)
            refine fp_aload_n (i := 0) (r := p0) dd_Reader_readTest_194 rfl rfl (fr_pc (pc' := 195) rfl ?_)
            refine fp_iconst (v := (0 : Int32)) dd_Reader_readTest_195 (by decide) (fr_pc (pc' := 196) rfl ?_)
            refine fp_iload_n (i := 2) (x := p2) dd_Reader_readTest_196 rfl rfl (fr_pc (pc' := 197) rfl ?_)
            refine fr_callS (stk := []) (ok_Reader_readSum sf_deep p0 (0 : Int32) p2) mt_Reader_readSum rfl rfl sw_628 sw_629 (by dsimp only [sf_deep]; omega) (Nat.le_of_ble_eq_true rfl) dd_Reader_readTest_197 (fun x11 => fr_to (pc' := 200) (env' := [some (sf_rv p0), some (.int p1), some (.int p2), some (sf_rv x1), some (.int x3), some (.int x8), none, none]) (stk' := [.int x11]) rfl rfl rfl ?_)
            refine fr_if_ne (tgt := 205) dd_Reader_readTest_200 rfl (fun _ => ?_) (fun _ => ?_)
            · refine fr_pc (pc' := 203) rfl ?_
              refine fp_iconst (v := (0 : Int32)) dd_Reader_readTest_203 (by decide) (fr_pc (pc' := 204) rfl ?_)
              exact fr_zret0 (v := (0 : Int32)) (Or.inl rfl) rfl rfl dd_Reader_readTest_204
            · refine fp_aload_n (i := 0) (r := p0) dd_Reader_readTest_205 rfl rfl (fr_pc (pc' := 206) rfl ?_)
              refine fr_gR cl_7 0 (by decide) rfl sw_299 dd_Reader_readTest_206 (fun x13 => fr_pc (pc' := 209) rfl ?_)
              refine fp_iload (i := 5) (x := x8) dd_Reader_readTest_209 rfl (fr_pc (pc' := 211) rfl ?_)
              refine fp_iconst (v := (0 : Int32)) dd_Reader_readTest_211 (by decide) (fr_pc (pc' := 212) rfl ?_)
              refine fr_callV (stk := []) (As := [.int x8, .int (0 : Int32)]) cl_6 (ok_Program_put x13 x8 (0 : Int32)) mt_Program_put rfl rfl sw_639 sw_640 sw_641 (by dsimp only [sf_deep]; omega) (Nat.le_of_ble_eq_true rfl) dd_Reader_readTest_212 (fun x14 => fr_to (pc' := 215) (env' := [some (sf_rv p0), some (.int p1), some (.int p2), some (sf_rv x1), some (.int x3), some (.int x8), none, none]) (stk' := [.int x14]) rfl rfl rfl ?_)
              refine fp_pop_i dd_Reader_readTest_215 (fr_pc (pc' := 216) rfl ?_)
              refine fr_wk [true, true, true, true, true, false, false, false] ?_
              exact fr_ret rfl
      · refine fr_pc (pc' := 124) rfl ?_
        refine fp_iload_n (i := 2) (x := p2) dd_Reader_readTest_124 rfl rfl (fr_pc (pc' := 125) rfl ?_)
        refine fp_bipush (v := (8 : Int32)) dd_Reader_readTest_125 (by decide) (fr_pc (pc' := 127) rfl ?_)
        refine fr_icmp_lt (tgt := 132) dd_Reader_readTest_127 rfl (fun _ => ?_) (fun _ => ?_)
        · refine fp_aload_n (i := 3) (r := x1) dd_Reader_readTest_132 rfl rfl (fr_pc (pc' := 133) rfl ?_)
          refine fr_callV (stk := []) (As := []) cl_9 (ok_Tokens_step x1) mt_Tokens_step rfl rfl sw_612 sw_613 sw_614 (by dsimp only [sf_deep]; omega) (Nat.le_of_ble_eq_true rfl) dd_Reader_readTest_133 (fun u16 => fr_to (pc' := 136) (env' := [some (sf_rv p0), some (.int p1), some (.int p2), some (sf_rv x1), some (.int x3), none, none, none]) (stk' := []) rfl rfl rfl ?_)
          refine fp_aload_n (i := 0) (r := p0) dd_Reader_readTest_136 rfl rfl (fr_pc (pc' := 137) rfl ?_)
          refine fp_iconst (v := (0 : Int32)) dd_Reader_readTest_137 (by decide) (fr_pc (pc' := 138) rfl ?_)
          refine fp_iload_n (i := 2) (x := p2) dd_Reader_readTest_138 rfl rfl (fr_pc (pc' := 139) rfl ?_)
          refine fp_iconst (v := (1 : Int32)) dd_Reader_readTest_139 (by decide) (fr_pc (pc' := 140) rfl ?_)
          refine fp_iadd dd_Reader_readTest_140 (fr_pc (pc' := 141) rfl ?_)
          refine fr_callS (stk := []) (hR_Reader_readTest p0 (0 : Int32) (p2 + (1 : Int32))) mt_Reader_readTest rfl rfl sw_686 sw_687 (by dsimp only [sf_deep]; omega) (Nat.le_of_ble_eq_true rfl) dd_Reader_readTest_141 (fun x17 => fr_to (pc' := 144) (env' := [some (sf_rv p0), some (.int p1), some (.int p2), some (sf_rv x1), some (.int x3), none, none, none]) (stk' := [.int x17]) rfl rfl rfl ?_)
          refine fr_if_eq (tgt := 156) dd_Reader_readTest_144 rfl (fun _ => ?_) (fun _ => ?_)
          · refine fp_iconst (v := (0 : Int32)) dd_Reader_readTest_156 (by decide) (fr_pc (pc' := 157) rfl ?_)
            exact fr_zret0 (v := (0 : Int32)) (Or.inl rfl) rfl rfl dd_Reader_readTest_157
          · refine fr_pc (pc' := 147) rfl ?_
            refine fp_aload_n (i := 3) (r := x1) dd_Reader_readTest_147 rfl rfl (fr_pc (pc' := 148) rfl ?_)
            refine fp_bipush (v := (41 : Int32)) dd_Reader_readTest_148 (by decide) (fr_pc (pc' := 150) rfl ?_)
            refine fr_callV (stk := []) (As := [.int (41 : Int32)]) cl_9 (ok_Tokens_isSign x1 (41 : Int32)) mt_Tokens_isSign rfl rfl sw_635 sw_636 sw_637 (by dsimp only [sf_deep]; omega) (Nat.le_of_ble_eq_true rfl) dd_Reader_readTest_150 (fun x19 => fr_to (pc' := 153) (env' := [some (sf_rv p0), some (.int p1), some (.int p2), some (sf_rv x1), some (.int x3), none, none, none]) (stk' := [.int x19]) rfl rfl rfl ?_)
            refine fr_if_ne (tgt := 158) dd_Reader_readTest_153 rfl (fun _ => ?_) (fun _ => ?_)
            · refine fr_pc (pc' := 156) rfl ?_
              refine fp_iconst (v := (0 : Int32)) dd_Reader_readTest_156 (by decide) (fr_pc (pc' := 157) rfl ?_)
              exact fr_zret0 (v := (0 : Int32)) (Or.inl rfl) rfl rfl dd_Reader_readTest_157
            · refine fp_aload_n (i := 3) (r := x1) dd_Reader_readTest_158 rfl rfl (fr_pc (pc' := 159) rfl ?_)
              refine fr_callV (stk := []) (As := []) cl_9 (ok_Tokens_step x1) mt_Tokens_step rfl rfl sw_612 sw_613 sw_614 (by dsimp only [sf_deep]; omega) (Nat.le_of_ble_eq_true rfl) dd_Reader_readTest_159 (fun u21 => fr_to (pc' := 162) (env' := [some (sf_rv p0), some (.int p1), some (.int p2), some (sf_rv x1), some (.int x3), none, none, none]) (stk' := []) rfl rfl rfl ?_)
              refine fp_goto (tgt := 216) dd_Reader_readTest_162 rfl ?_
              exact fr_ret rfl
        · refine fr_pc (pc' := 130) rfl ?_
          refine fp_iconst (v := (0 : Int32)) dd_Reader_readTest_130 (by decide) (fr_pc (pc' := 131) rfl ?_)
          exact fr_zret0 (v := (0 : Int32)) (Or.inl rfl) rfl rfl dd_Reader_readTest_131
    · refine fp_iload (i := 4) (x := x3) dd_Reader_readTest_216 rfl (fr_pc (pc' := 218) rfl ?_)
      refine fr_if_eq (tgt := 231) dd_Reader_readTest_218 rfl (fun _ => ?_) (fun _ => ?_)
      · refine fp_iconst (v := (1 : Int32)) dd_Reader_readTest_231 (by decide) (fr_pc (pc' := 232) rfl ?_)
        exact fr_zret0 (v := (1 : Int32)) (Or.inr rfl) rfl rfl dd_Reader_readTest_232
      · refine fr_pc (pc' := 221) rfl ?_
        refine fp_aload_n (i := 0) (r := p0) dd_Reader_readTest_221 rfl rfl (fr_pc (pc' := 222) rfl ?_)
        refine fr_gR cl_7 0 (by decide) rfl sw_299 dd_Reader_readTest_222 (fun x24 => fr_pc (pc' := 225) rfl ?_)
        refine fp_iconst (v := (2 : Int32)) dd_Reader_readTest_225 (by decide) (fr_pc (pc' := 226) rfl ?_)
        refine fp_iconst (v := (0 : Int32)) dd_Reader_readTest_226 (by decide) (fr_pc (pc' := 227) rfl ?_)
        refine fr_callV (stk := []) (As := [.int (2 : Int32), .int (0 : Int32)]) cl_6 (ok_Program_put x24 (2 : Int32) (0 : Int32)) mt_Program_put rfl rfl sw_639 sw_640 sw_641 (by dsimp only [sf_deep]; omega) (Nat.le_of_ble_eq_true rfl) dd_Reader_readTest_227 (fun x25 => fr_to (pc' := 230) (env' := [some (sf_rv p0), some (.int p1), some (.int p2), some (sf_rv x1), some (.int x3), none, none, none]) (stk' := [.int x25]) rfl rfl rfl ?_)
        refine fp_pop_i dd_Reader_readTest_230 (fr_pc (pc' := 231) rfl ?_)
        refine fp_iconst (v := (1 : Int32)) dd_Reader_readTest_231 (by decide) (fr_pc (pc' := 232) rfl ?_)
        exact fr_zret0 (v := (1 : Int32)) (Or.inr rfl) rfl rfl dd_Reader_readTest_232
  · refine fr_pc (pc' := 10) rfl ?_
    refine fp_iload_n (i := 1) (x := p1) dd_Reader_readTest_10 rfl rfl (fr_pc (pc' := 11) rfl ?_)
    refine fr_bnd (l1 := (fun (v27 : (UInt32)) => sf_p 21 [some (sf_rv p0), some (.int p1), some (.int p2), some (sf_rv x1), none, none, none, none] [.float v27])) ?_ (fun v27 => ?_)
    · refine fr_if_ne (tgt := 19) dd_Reader_readTest_11 rfl (fun _ => ?_) (fun _ => ?_)
      · refine fr_pc (pc' := 14) rfl ?_
        refine fp_ldcS (i := 21) rfl (by decide) rfl rfl dd_Reader_readTest_14 (fr_pc (pc' := 16) rfl ?_)
        refine fp_goto (tgt := 21) dd_Reader_readTest_16 rfl ?_
        exact fr_ret rfl
      · refine fp_ldcS (i := 22) rfl (by decide) rfl rfl dd_Reader_readTest_19 (fr_pc (pc' := 21) rfl ?_)
        exact fr_ret rfl
    · refine fp_astore_s (i := 4) dd_Reader_readTest_21 (Nat.le_of_ble_eq_true rfl) (fun _ => c1_r rfl) (fr_to (pc' := 23) (env' := [some (sf_rv p0), some (.int p1), some (.int p2), some (sf_rv x1), some (.float v27), none, none, none]) (stk' := []) rfl rfl rfl ?_)
      refine fp_aload_n (i := 0) (r := p0) dd_Reader_readTest_23 rfl rfl (fr_pc (pc' := 24) rfl ?_)
      refine fp_iload_n (i := 1) (x := p1) dd_Reader_readTest_24 rfl rfl (fr_pc (pc' := 25) rfl ?_)
      refine fp_iconst (v := (1 : Int32)) dd_Reader_readTest_25 (by decide) (fr_pc (pc' := 26) rfl ?_)
      refine fp_iadd dd_Reader_readTest_26 (fr_pc (pc' := 27) rfl ?_)
      refine fp_iload_n (i := 2) (x := p2) dd_Reader_readTest_27 rfl rfl (fr_pc (pc' := 28) rfl ?_)
      refine fr_callS (stk := []) (hR_Reader_readTest p0 (p1 + (1 : Int32)) p2) mt_Reader_readTest rfl rfl sw_686 sw_687 (by dsimp only [sf_deep]; omega) (Nat.le_of_ble_eq_true rfl) dd_Reader_readTest_28 (fun x28 => fr_to (pc' := 31) (env' := [some (sf_rv p0), some (.int p1), some (.int p2), some (sf_rv x1), some (.float v27), none, none, none]) (stk' := [.int x28]) rfl rfl rfl ?_)
      refine fp_istore (i := 5) dd_Reader_readTest_31 (Nat.le_of_ble_eq_true rfl) (fun _ => c1_s rfl) (fr_to (pc' := 33) (env' := [some (sf_rv p0), some (.int p1), some (.int p2), some (sf_rv x1), some (.float v27), some (.int x28), none, none]) (stk' := []) rfl rfl rfl ?_)
      refine fp_iconst (v := (0 : Int32)) dd_Reader_readTest_33 (by decide) (fr_pc (pc' := 34) rfl ?_)
      refine fp_istore (i := 6) dd_Reader_readTest_34 (Nat.le_of_ble_eq_true rfl) (fun _ => c1_i rfl) (fr_to (pc' := 36) (env' := [some (sf_rv p0), some (.int p1), some (.int p2), some (sf_rv x1), some (.float v27), some (.int x28), some (.int (0 : Int32)), none]) (stk' := []) rfl rfl rfl ?_)
      refine fr_to (pc' := 36) (env' := [some (sf_rv p0), some (.int p1), some (.int p2), some (sf_rv x1), some (.float v27), some (.int x28), some (.int (0 : Int32)), none]) (stk' := []) rfl rfl rfl ?_
      refine fr_bnd (l1 := (fun (e43 : (Int32)) => sf_p 106 [some (sf_rv p0), some (.int p1), some (.int p2), some (sf_rv x1), some (.float v27), some (.int e43), none, none] [])) (fr_loop (Lb := (fun (b29 : (Int32 × Int32)) => sf_p 36 [some (sf_rv p0), some (.int p1), some (.int p2), some (sf_rv x1), some (.float v27), some (.int b29.1), some (.int b29.2), none] [])) (fun b29 => ?_) _ _) (fun e43 => ?_)
      · refine fp_iload (i := 6) (x := b29.2) dd_Reader_readTest_36 rfl (fr_pc (pc' := 38) rfl ?_)
        refine fp_sipush (v := (400 : Int32)) dd_Reader_readTest_38 (by decide) (fr_pc (pc' := 41) rfl ?_)
        refine fr_icmp_ge (tgt := 106) dd_Reader_readTest_41 rfl (fun _ => ?_) (fun _ => ?_)
        · refine fr_wk [true, true, true, true, true, true, false, false] ?_
          exact fr_ret rfl
        · refine fr_pc (pc' := 44) rfl ?_
          refine fp_iload (i := 5) (x := b29.1) dd_Reader_readTest_44 rfl (fr_pc (pc' := 46) rfl ?_)
          refine fr_if_eq (tgt := 106) dd_Reader_readTest_46 rfl (fun _ => ?_) (fun _ => ?_)
          · refine fr_wk [true, true, true, true, true, true, false, false] ?_
            exact fr_ret rfl
          · refine fr_pc (pc' := 49) rfl ?_
            refine fp_aload_n (i := 3) (r := x1) dd_Reader_readTest_49 rfl rfl (fr_pc (pc' := 50) rfl ?_)
            refine fp_aload_s (i := 4) (x := v27) dd_Reader_readTest_50 rfl (fr_pc (pc' := 52) rfl ?_)
            refine fr_callV (stk := []) (As := [.float v27]) cl_9 (ok_Tokens_isWord x1 v27) mt_Tokens_isWord rfl rfl sw_552 sw_553 sw_554 (by dsimp only [sf_deep]; omega) (Nat.le_of_ble_eq_true rfl) dd_Reader_readTest_52 (fun x32 => fr_to (pc' := 55) (env' := [some (sf_rv p0), some (.int p1), some (.int p2), some (sf_rv x1), some (.float v27), some (.int b29.1), some (.int b29.2), none]) (stk' := [.int x32]) rfl rfl rfl ?_)
            refine fr_if_eq (tgt := 106) dd_Reader_readTest_55 rfl (fun _ => ?_) (fun _ => ?_)
            · refine fr_wk [true, true, true, true, true, true, false, false] ?_
              exact fr_ret rfl
            · refine fr_pc (pc' := 58) rfl ?_
              refine fp_aload_n (i := 3) (r := x1) dd_Reader_readTest_58 rfl rfl (fr_pc (pc' := 59) rfl ?_)
              refine fr_callV (stk := []) (As := []) cl_9 (ok_Tokens_step x1) mt_Tokens_step rfl rfl sw_612 sw_613 sw_614 (by dsimp only [sf_deep]; omega) (Nat.le_of_ble_eq_true rfl) dd_Reader_readTest_59 (fun u34 => fr_to (pc' := 62) (env' := [some (sf_rv p0), some (.int p1), some (.int p2), some (sf_rv x1), some (.float v27), some (.int b29.1), some (.int b29.2), none]) (stk' := []) rfl rfl rfl ?_)
              refine fp_aload_n (i := 0) (r := p0) dd_Reader_readTest_62 rfl rfl (fr_pc (pc' := 63) rfl ?_)
              refine fr_gR cl_7 0 (by decide) rfl sw_299 dd_Reader_readTest_63 (fun x35 => fr_pc (pc' := 66) rfl ?_)
              refine fp_iload_n (i := 1) (x := p1) dd_Reader_readTest_66 rfl rfl (fr_pc (pc' := 67) rfl ?_)
              refine fr_bnd (l1 := (fun (v37 : (Int32)) => sf_p 75 [some (sf_rv p0), some (.int p1), some (.int p2), some (sf_rv x1), some (.float v27), some (.int b29.1), some (.int b29.2), none] [.int v37, sf_rv x35])) ?_ (fun v37 => ?_)
              · refine fr_if_ne (tgt := 74) dd_Reader_readTest_67 rfl (fun _ => ?_) (fun _ => ?_)
                · refine fr_pc (pc' := 70) rfl ?_
                  refine fp_iconst (v := (3 : Int32)) dd_Reader_readTest_70 (by decide) (fr_pc (pc' := 71) rfl ?_)
                  refine fp_goto (tgt := 75) dd_Reader_readTest_71 rfl ?_
                  exact fr_ret rfl
                · refine fp_iconst (v := (4 : Int32)) dd_Reader_readTest_74 (by decide) (fr_pc (pc' := 75) rfl ?_)
                  exact fr_ret rfl
              · refine fp_iconst (v := (0 : Int32)) dd_Reader_readTest_75 (by decide) (fr_pc (pc' := 76) rfl ?_)
                refine fr_callV (stk := []) (As := [.int v37, .int (0 : Int32)]) cl_6 (ok_Program_put x35 v37 (0 : Int32)) mt_Program_put rfl rfl sw_639 sw_640 sw_641 (by dsimp only [sf_deep]; omega) (Nat.le_of_ble_eq_true rfl) dd_Reader_readTest_76 (fun x38 => fr_to (pc' := 79) (env' := [some (sf_rv p0), some (.int p1), some (.int p2), some (sf_rv x1), some (.float v27), some (.int b29.1), some (.int b29.2), none]) (stk' := [.int x38]) rfl rfl rfl ?_)
                refine fp_istore (i := 7) dd_Reader_readTest_79 (Nat.le_of_ble_eq_true rfl) (fun _ => c1_i rfl) (fr_to (pc' := 81) (env' := [some (sf_rv p0), some (.int p1), some (.int p2), some (sf_rv x1), some (.float v27), some (.int b29.1), some (.int b29.2), some (.int x38)]) (stk' := []) rfl rfl rfl ?_)
                refine fp_aload_n (i := 0) (r := p0) dd_Reader_readTest_81 rfl rfl (fr_pc (pc' := 82) rfl ?_)
                refine fp_iload_n (i := 1) (x := p1) dd_Reader_readTest_82 rfl rfl (fr_pc (pc' := 83) rfl ?_)
                refine fp_iconst (v := (1 : Int32)) dd_Reader_readTest_83 (by decide) (fr_pc (pc' := 84) rfl ?_)
                refine fp_iadd dd_Reader_readTest_84 (fr_pc (pc' := 85) rfl ?_)
                refine fp_iload_n (i := 2) (x := p2) dd_Reader_readTest_85 rfl rfl (fr_pc (pc' := 86) rfl ?_)
                refine fr_callS (stk := []) (hR_Reader_readTest p0 (p1 + (1 : Int32)) p2) mt_Reader_readTest rfl rfl sw_686 sw_687 (by dsimp only [sf_deep]; omega) (Nat.le_of_ble_eq_true rfl) dd_Reader_readTest_86 (fun x39 => fr_to (pc' := 89) (env' := [some (sf_rv p0), some (.int p1), some (.int p2), some (sf_rv x1), some (.float v27), some (.int b29.1), some (.int b29.2), some (.int x38)]) (stk' := [.int x39]) rfl rfl rfl ?_)
                refine fp_istore (i := 5) dd_Reader_readTest_89 (Nat.le_of_ble_eq_true rfl) (fun _ => c1_s rfl) (fr_to (pc' := 91) (env' := [some (sf_rv p0), some (.int p1), some (.int p2), some (sf_rv x1), some (.float v27), some (.int x39), some (.int b29.2), some (.int x38)]) (stk' := []) rfl rfl rfl ?_)
                refine fp_aload_n (i := 0) (r := p0) dd_Reader_readTest_91 rfl rfl (fr_pc (pc' := 92) rfl ?_)
                refine fr_gR cl_7 0 (by decide) rfl sw_299 dd_Reader_readTest_92 (fun x40 => fr_pc (pc' := 95) rfl ?_)
                refine fp_iload (i := 7) (x := x38) dd_Reader_readTest_95 rfl (fr_pc (pc' := 97) rfl ?_)
                refine fr_callV (stk := []) (As := [.int x38]) cl_6 (ok_Program_aim x40 x38) mt_Program_aim rfl rfl sw_691 sw_692 sw_693 (by dsimp only [sf_deep]; omega) (Nat.le_of_ble_eq_true rfl) dd_Reader_readTest_97 (fun u41 => fr_to (pc' := 100) (env' := [some (sf_rv p0), some (.int p1), some (.int p2), some (sf_rv x1), some (.float v27), some (.int x39), some (.int b29.2), some (.int x38)]) (stk' := []) rfl rfl rfl ?_)
                refine fr_niinc (i := 6) (x := b29.2) (w := (1 : Int32)) dd_Reader_readTest_100 rfl (by decide) (Nat.le_of_ble_eq_true rfl) (fun _ => c1_i rfl) (fun y42 => fr_to (pc' := 103) (env' := [some (sf_rv p0), some (.int p1), some (.int p2), some (sf_rv x1), some (.float v27), some (.int x39), some (.int y42), some (.int x38)]) (stk' := []) rfl rfl rfl ?_)
                refine fp_goto (tgt := 36) dd_Reader_readTest_103 rfl ?_
                refine fr_wk [true, true, true, true, true, true, true, false] ?_
                exact fr_ret rfl
      · refine fp_iload (i := 5) (x := e43) dd_Reader_readTest_106 rfl (fr_pc (pc' := 108) rfl ?_)
        exact fr_zret (r := fun x44 => x44) (fun _ => rfl) rfl dd_Reader_readTest_108
def jx_G1 : Nat → Nat → Option Nat → Int32 → Int32 → sf_M (Int32)
  | 0, _, _, _, _ => sf_nil
  | n + 1, t, a0, a1, a2 => jb_Reader_readTest (jx_G1 n) a0 a1 a2
theorem okG_1 : ∀ (n : Nat) (a0 : Option Nat) (a1 : Int32) (a2 : Int32), (sf_Ok ({ cls := "SplitFares$Reader", name := "readTest", desc := "(LSplitFares$Reader;II)Z" } : Jvm.MethodName) prog_8_method_8_code 8 (some .boolean) (110 + n) [sf_rv a0, .int a1, .int a2] (jx_G1 n 0 a0 a1 a2) (fun r => some (.int r)))
  | 0, _, _, _ => sf_Ok.nil
  | n + 1, a0, a1, a2 => okb_Reader_readTest n (jx_G1 n) (fun b0 b1 b2 => (okG_1 n b0 b1 b2)) a0 a1 a2
theorem ok_Reader_readTest (n : Nat) (a0 : Option Nat) (a1 : Int32) (a2 : Int32) : sf_Ok ({ cls := "SplitFares$Reader", name := "readTest", desc := "(LSplitFares$Reader;II)Z" } : Jvm.MethodName) prog_8_method_8_code 8 (some .boolean) (110 + n) [sf_rv a0, .int a1, .int a2] (jx_G1 n 0 a0 a1 a2) (fun r => some (.int r)) := (okG_1 n a0 a1 a2)
theorem mt_Reader_readText : sf_Mt ({ cls := "SplitFares$Reader", name := "readText", desc := "(LSplitFares$Tape;Z)Z" } : Jvm.MethodName) prog_8_method_3_code 4 (some .boolean) 2 := ⟨sw_525, sw_9, ⟨by decide, by decide, by decide +kernel⟩, by decide⟩
theorem dd_Reader_readText_0 : decode prog_8_method_3_code 0 = .ok (.aload_n 0, 1) := by decide +kernel
theorem dd_Reader_readText_1 : decode prog_8_method_3_code 1 = .ok (.getfield 21, 3) := by decide +kernel
theorem dd_Reader_readText_4 : decode prog_8_method_3_code 4 = .ok (.aload_n 1, 1) := by decide +kernel
theorem dd_Reader_readText_5 : decode prog_8_method_3_code 5 = .ok (.invokevirtual 37, 3) := by decide +kernel
theorem dd_Reader_readText_8 : decode prog_8_method_3_code 8 = .ok (.aload_n 0, 1) := by decide +kernel
theorem dd_Reader_readText_9 : decode prog_8_method_3_code 9 = .ok (.getfield 12, 3) := by decide +kernel
theorem dd_Reader_readText_12 : decode prog_8_method_3_code 12 = .ok (.invokevirtual 41, 3) := by decide +kernel
theorem dd_Reader_readText_15 : decode prog_8_method_3_code 15 = .ok (.aload_n 0, 1) := by decide +kernel
theorem dd_Reader_readText_16 : decode prog_8_method_3_code 16 = .ok (.iload_n 2, 1) := by decide +kernel
theorem dd_Reader_readText_17 : decode prog_8_method_3_code 17 = .ok (.putfield 25, 3) := by decide +kernel
theorem dd_Reader_readText_20 : decode prog_8_method_3_code 20 = .ok (.aload_n 0, 1) := by decide +kernel
theorem dd_Reader_readText_21 : decode prog_8_method_3_code 21 = .ok (.iconst 0, 1) := by decide +kernel
theorem dd_Reader_readText_22 : decode prog_8_method_3_code 22 = .ok (.putfield 29, 3) := by decide +kernel
theorem dd_Reader_readText_25 : decode prog_8_method_3_code 25 = .ok (.iconst 0, 1) := by decide +kernel
theorem dd_Reader_readText_26 : decode prog_8_method_3_code 26 = .ok (.istore_n 3, 1) := by decide +kernel
theorem dd_Reader_readText_27 : decode prog_8_method_3_code 27 = .ok (.iload_n 3, 1) := by decide +kernel
theorem dd_Reader_readText_28 : decode prog_8_method_3_code 28 = .ok (.bipush 12, 2) := by decide +kernel
theorem dd_Reader_readText_30 : decode prog_8_method_3_code 30 = .ok (.if_icmp .ge 105, 3) := by decide +kernel
theorem dd_Reader_readText_33 : decode prog_8_method_3_code 33 = .ok (.aload_n 0, 1) := by decide +kernel
theorem dd_Reader_readText_34 : decode prog_8_method_3_code 34 = .ok (.getfield 25, 3) := by decide +kernel
theorem dd_Reader_readText_37 : decode prog_8_method_3_code 37 = .ok (.ifCond .eq 13, 3) := by decide +kernel
theorem dd_Reader_readText_40 : decode prog_8_method_3_code 40 = .ok (.aload_n 0, 1) := by decide +kernel
theorem dd_Reader_readText_41 : decode prog_8_method_3_code 41 = .ok (.invokevirtual 44, 3) := by decide +kernel
theorem dd_Reader_readText_44 : decode prog_8_method_3_code 44 = .ok (.ifCond .eq 13, 3) := by decide +kernel
theorem dd_Reader_readText_47 : decode prog_8_method_3_code 47 = .ok (.goto 12, 3) := by decide +kernel
theorem dd_Reader_readText_50 : decode prog_8_method_3_code 50 = .ok (.aload_n 0, 1) := by decide +kernel
theorem dd_Reader_readText_51 : decode prog_8_method_3_code 51 = .ok (.invokevirtual 48, 3) := by decide +kernel
theorem dd_Reader_readText_54 : decode prog_8_method_3_code 54 = .ok (.ifCond .ne 5, 3) := by decide +kernel
theorem dd_Reader_readText_57 : decode prog_8_method_3_code 57 = .ok (.iconst 0, 1) := by decide +kernel
theorem dd_Reader_readText_58 : decode prog_8_method_3_code 58 = .ok (.ireturn, 1) := by decide +kernel
theorem dd_Reader_readText_59 : decode prog_8_method_3_code 59 = .ok (.aload_n 0, 1) := by decide +kernel
theorem dd_Reader_readText_60 : decode prog_8_method_3_code 60 = .ok (.getfield 21, 3) := by decide +kernel
theorem dd_Reader_readText_63 : decode prog_8_method_3_code 63 = .ok (.ldc 51, 2) := by decide +kernel
theorem dd_Reader_readText_65 : decode prog_8_method_3_code 65 = .ok (.invokevirtual 53, 3) := by decide +kernel
theorem dd_Reader_readText_68 : decode prog_8_method_3_code 68 = .ok (.ifCond .eq 21, 3) := by decide +kernel
theorem dd_Reader_readText_71 : decode prog_8_method_3_code 71 = .ok (.aload_n 0, 1) := by decide +kernel
theorem dd_Reader_readText_72 : decode prog_8_method_3_code 72 = .ok (.getfield 21, 3) := by decide +kernel
theorem dd_Reader_readText_75 : decode prog_8_method_3_code 75 = .ok (.invokevirtual 57, 3) := by decide +kernel
theorem dd_Reader_readText_78 : decode prog_8_method_3_code 78 = .ok (.aload_n 0, 1) := by decide +kernel
theorem dd_Reader_readText_79 : decode prog_8_method_3_code 79 = .ok (.iconst 0, 1) := by decide +kernel
theorem dd_Reader_readText_80 : decode prog_8_method_3_code 80 = .ok (.iconst 0, 1) := by decide +kernel
theorem dd_Reader_readText_81 : decode prog_8_method_3_code 81 = .ok (.invokestatic 60, 3) := by decide +kernel
theorem dd_Reader_readText_84 : decode prog_8_method_3_code 84 = .ok (.ifCond .ne 5, 3) := by decide +kernel
theorem dd_Reader_readText_87 : decode prog_8_method_3_code 87 = .ok (.iconst 0, 1) := by decide +kernel
theorem dd_Reader_readText_88 : decode prog_8_method_3_code 88 = .ok (.ireturn, 1) := by decide +kernel
theorem dd_Reader_readText_89 : decode prog_8_method_3_code 89 = .ok (.aload_n 0, 1) := by decide +kernel
theorem dd_Reader_readText_90 : decode prog_8_method_3_code 90 = .ok (.getfield 12, 3) := by decide +kernel
theorem dd_Reader_readText_93 : decode prog_8_method_3_code 93 = .ok (.invokevirtual 64, 3) := by decide +kernel
theorem dd_Reader_readText_96 : decode prog_8_method_3_code 96 = .ok (.aload_n 0, 1) := by decide +kernel
theorem dd_Reader_readText_97 : decode prog_8_method_3_code 97 = .ok (.getfield 21, 3) := by decide +kernel
theorem dd_Reader_readText_100 : decode prog_8_method_3_code 100 = .ok (.invokevirtual 67, 3) := by decide +kernel
theorem dd_Reader_readText_103 : decode prog_8_method_3_code 103 = .ok (.ifCond .eq 5, 3) := by decide +kernel
theorem dd_Reader_readText_106 : decode prog_8_method_3_code 106 = .ok (.iconst 1, 1) := by decide +kernel
theorem dd_Reader_readText_107 : decode prog_8_method_3_code 107 = .ok (.ireturn, 1) := by decide +kernel
theorem dd_Reader_readText_108 : decode prog_8_method_3_code 108 = .ok (.aload_n 0, 1) := by decide +kernel
theorem dd_Reader_readText_109 : decode prog_8_method_3_code 109 = .ok (.getfield 21, 3) := by decide +kernel
theorem dd_Reader_readText_112 : decode prog_8_method_3_code 112 = .ok (.bipush 59, 2) := by decide +kernel
theorem dd_Reader_readText_114 : decode prog_8_method_3_code 114 = .ok (.invokevirtual 70, 3) := by decide +kernel
theorem dd_Reader_readText_117 : decode prog_8_method_3_code 117 = .ok (.ifCond .ne 5, 3) := by decide +kernel
theorem dd_Reader_readText_120 : decode prog_8_method_3_code 120 = .ok (.iconst 0, 1) := by decide +kernel
theorem dd_Reader_readText_121 : decode prog_8_method_3_code 121 = .ok (.ireturn, 1) := by decide +kernel
theorem dd_Reader_readText_122 : decode prog_8_method_3_code 122 = .ok (.aload_n 0, 1) := by decide +kernel
theorem dd_Reader_readText_123 : decode prog_8_method_3_code 123 = .ok (.getfield 21, 3) := by decide +kernel
theorem dd_Reader_readText_126 : decode prog_8_method_3_code 126 = .ok (.invokevirtual 57, 3) := by decide +kernel
theorem dd_Reader_readText_129 : decode prog_8_method_3_code 129 = .ok (.iinc 3 1, 3) := by decide +kernel
theorem dd_Reader_readText_132 : decode prog_8_method_3_code 132 = .ok (.goto (-105), 3) := by decide +kernel
theorem dd_Reader_readText_135 : decode prog_8_method_3_code 135 = .ok (.iconst 0, 1) := by decide +kernel
theorem dd_Reader_readText_136 : decode prog_8_method_3_code 136 = .ok (.ireturn, 1) := by decide +kernel
def jx_Reader_readText (p0 : Option Nat) (p1 : Option Nat) (p2 : Int32) : sf_M (Int32) :=
  sf_bnd (sf_gR 7 1 p0) fun x1 =>
  sf_bnd (sf_rc 9 x1 (jx_Tokens_scan x1 p1)) fun _ =>
  sf_bnd (sf_gR 7 0 p0) fun x3 =>
  sf_bnd (sf_rc 6 x3 (jx_Program_clear x3)) fun _ =>
  sf_bnd (sf_pZ 7 2 p0 p2) fun _ =>
  sf_bnd (sf_pI 7 3 p0 (0 : Int32)) fun _ =>
  sf_or (α := Int32) (β := (Unit)) (sf_loop (β := (Int32)) (γ := (Int32 ⊕ (Unit))) (fun b5 =>
  if (12 : Int32) ≤ b5 then (
  sf_ret (.inr (.inr ()))
  ) else (
  sf_bnd (sf_gI 7 2 p0) fun x7 =>
  sf_or (α := ((Int32) ⊕ (Int32 ⊕ (Unit)))) (β := (Unit)) (
  if x7 = 0 then (
  sf_bnd (sf_rc 7 p0 (jx_Reader_readLawClause p0)) fun x9 =>
  if x9 = 0 then (
  sf_ret (.inl (.inr (.inl (0 : Int32))))
  ) else (
  sf_ret (.inr ())
  )
  ) else (
  sf_bnd (sf_rc 7 p0 (jx_Reader_readOrder p0)) fun x11 =>
  if x11 = 0 then (
  sf_ret (.inl (.inr (.inl (0 : Int32))))
  ) else (
  sf_ret (.inr ())
  )
  )
  ) (fun v13 =>
  sf_bnd (sf_gR 7 1 p0) fun x14 =>
  sf_bnd (sf_rc 9 x14 (jx_Tokens_isWord x14 (UInt32.ofNat 20))) fun x15 =>
  sf_or (α := ((Int32) ⊕ (Int32 ⊕ (Unit)))) (β := (Unit)) (
  if x15 = 0 then (
  sf_ret (.inr ())
  ) else (
  sf_bnd (sf_gR 7 1 p0) fun x17 =>
  sf_bnd (sf_rc 9 x17 (jx_Tokens_step x17)) fun _ =>
  sf_bnd (jx_G1 sf_deep 0 p0 (0 : Int32) (0 : Int32)) fun x19 =>
  if x19 = 0 then (
  sf_ret (.inl (.inr (.inl (0 : Int32))))
  ) else (
  sf_ret (.inr ())
  )
  )
  ) (fun v21 =>
  sf_bnd (sf_gR 7 0 p0) fun x22 =>
  sf_bnd (sf_rc 6 x22 (jx_Program_closeClause x22)) fun _ =>
  sf_bnd (sf_gR 7 1 p0) fun x24 =>
  sf_bnd (sf_rc 9 x24 (jx_Tokens_isEnd x24)) fun x25 =>
  if x25 = 0 then (
  sf_bnd (sf_gR 7 1 p0) fun x27 =>
  sf_bnd (sf_rc 9 x27 (jx_Tokens_isSign x27 (59 : Int32))) fun x28 =>
  if x28 = 0 then (
  sf_ret (.inr (.inl (0 : Int32)))
  ) else (
  sf_bnd (sf_gR 7 1 p0) fun x30 =>
  sf_bnd (sf_rc 9 x30 (jx_Tokens_step x30)) fun _ =>
  sf_bnd (sf_ret (b5 + (1 : Int32))) fun y32 =>
  sf_ret (.inl y32)
  )
  ) else (
  sf_ret (.inr (.inl (1 : Int32)))
  )
  )
  )
  )
  ) sf_fuel (0 : Int32)) (fun e33 =>
  sf_ret (0 : Int32)
  )
set_option maxRecDepth 20000 in
set_option maxHeartbeats 4000000 in
theorem ok_Reader_readText (p0 : Option Nat) (p1 : Option Nat) (p2 : Int32) : sf_Ok ({ cls := "SplitFares$Reader", name := "readText", desc := "(LSplitFares$Tape;Z)Z" } : Jvm.MethodName) prog_8_method_3_code 4 (some .boolean) 211 [sf_rv p0, sf_rv p1, .int p2] (jx_Reader_readText p0 p1 p2) (fun r => some (.int r)) := by
  refine sf_Ok.of (env := [some (sf_rv p0), some (sf_rv p1), some (.int p2), none]) (plainFor_of_name (by decide)) [false, false, false] (fun G => ⟨pk_r, pk_r, pk_i, trivial⟩) (Nat.le_of_ble_eq_true rfl) rfl (fun X => ?_)
  unfold jx_Reader_readText
  refine fp_aload_n (i := 0) (r := p0) dd_Reader_readText_0 rfl rfl (fr_pc (pc' := 1) rfl ?_)
  refine fr_gR cl_7 1 (by decide) rfl sw_301 dd_Reader_readText_1 (fun x1 => fr_pc (pc' := 4) rfl ?_)
  refine fp_aload_n (i := 1) (r := p1) dd_Reader_readText_4 rfl rfl (fr_pc (pc' := 5) rfl ?_)
  refine fr_callV (stk := []) (As := [sf_rv p1]) cl_9 (ok_Tokens_scan x1 p1) mt_Tokens_scan rfl rfl sw_526 sw_527 sw_528 (by decide) (Nat.le_of_ble_eq_true rfl) dd_Reader_readText_5 (fun u2 => fr_to (pc' := 8) (env' := [some (sf_rv p0), some (sf_rv p1), some (.int p2), none]) (stk' := []) rfl rfl rfl ?_)
  refine fp_aload_n (i := 0) (r := p0) dd_Reader_readText_8 rfl rfl (fr_pc (pc' := 9) rfl ?_)
  refine fr_gR cl_7 0 (by decide) rfl sw_299 dd_Reader_readText_9 (fun x3 => fr_pc (pc' := 12) rfl ?_)
  refine fr_callV (stk := []) (As := []) cl_6 (ok_Program_clear x3) mt_Program_clear rfl rfl sw_539 sw_540 sw_541 (by decide) (Nat.le_of_ble_eq_true rfl) dd_Reader_readText_12 (fun u4 => fr_to (pc' := 15) (env' := [some (sf_rv p0), some (sf_rv p1), some (.int p2), none]) (stk' := []) rfl rfl rfl ?_)
  refine fp_aload_n (i := 0) (r := p0) dd_Reader_readText_15 rfl rfl (fr_pc (pc' := 16) rfl ?_)
  refine fp_iload_n (i := 2) (x := p2) dd_Reader_readText_16 rfl rfl (fr_pc (pc' := 17) rfl ?_)
  refine fr_pZ cl_7 2 (by decide) rfl sw_302 rfl rfl dd_Reader_readText_17 (fr_pc (pc' := 20) rfl ?_)
  refine fp_aload_n (i := 0) (r := p0) dd_Reader_readText_20 rfl rfl (fr_pc (pc' := 21) rfl ?_)
  refine fp_iconst (v := (0 : Int32)) dd_Reader_readText_21 (by decide) (fr_pc (pc' := 22) rfl ?_)
  refine fr_pI cl_7 3 (by decide) rfl sw_303 rfl ⟨rfl, rfl⟩ dd_Reader_readText_22 (fr_pc (pc' := 25) rfl ?_)
  refine fp_iconst (v := (0 : Int32)) dd_Reader_readText_25 (by decide) (fr_pc (pc' := 26) rfl ?_)
  refine fp_istore_n (i := 3) dd_Reader_readText_26 rfl (Nat.le_of_ble_eq_true rfl) (fun _ => c1_i rfl) (fr_to (pc' := 27) (env' := [some (sf_rv p0), some (sf_rv p1), some (.int p2), some (.int (0 : Int32))]) (stk' := []) rfl rfl rfl ?_)
  refine fr_to (pc' := 27) (env' := [some (sf_rv p0), some (sf_rv p1), some (.int p2), some (.int (0 : Int32))]) (stk' := []) rfl rfl rfl ?_
  refine fr_or (l1 := (fun (e33 : (Unit)) => sf_p 135 [some (sf_rv p0), some (sf_rv p1), some (.int p2), none] [])) (fr_loop (Lb := (fun (b5 : (Int32)) => sf_p 27 [some (sf_rv p0), some (sf_rv p1), some (.int p2), some (.int b5)] [])) (fun b5 => ?_) _ _) (fun e33 => ?_)
  · refine fp_iload_n (i := 3) (x := b5) dd_Reader_readText_27 rfl rfl (fr_pc (pc' := 28) rfl ?_)
    refine fp_bipush (v := (12 : Int32)) dd_Reader_readText_28 (by decide) (fr_pc (pc' := 30) rfl ?_)
    refine fr_icmp_ge (tgt := 135) dd_Reader_readText_30 rfl (fun _ => ?_) (fun _ => ?_)
    · refine fr_wk [true, true, true, false] ?_
      exact fr_ret rfl
    · refine fr_pc (pc' := 33) rfl ?_
      refine fp_aload_n (i := 0) (r := p0) dd_Reader_readText_33 rfl rfl (fr_pc (pc' := 34) rfl ?_)
      refine fr_gI cl_7 2 (by decide) rfl sw_302 dd_Reader_readText_34 (fun x7 => fr_pc (pc' := 37) rfl ?_)
      refine fr_or (l1 := (fun (v13 : (Unit)) => sf_p 59 [some (sf_rv p0), some (sf_rv p1), some (.int p2), some (.int b5)] [])) ?_ (fun v13 => ?_)
      · refine fr_if_eq (tgt := 50) dd_Reader_readText_37 rfl (fun _ => ?_) (fun _ => ?_)
        · refine fp_aload_n (i := 0) (r := p0) dd_Reader_readText_50 rfl rfl (fr_pc (pc' := 51) rfl ?_)
          refine fr_callV (stk := []) (As := []) cl_7 (ok_Reader_readLawClause p0) mt_Reader_readLawClause rfl rfl sw_679 sw_681 sp_14 (by decide) (Nat.le_of_ble_eq_true rfl) dd_Reader_readText_51 (fun x9 => fr_to (pc' := 54) (env' := [some (sf_rv p0), some (sf_rv p1), some (.int p2), some (.int b5)]) (stk' := [.int x9]) rfl rfl rfl ?_)
          refine fr_if_ne (tgt := 59) dd_Reader_readText_54 rfl (fun _ => ?_) (fun _ => ?_)
          · refine fr_pc (pc' := 57) rfl ?_
            refine fp_iconst (v := (0 : Int32)) dd_Reader_readText_57 (by decide) (fr_pc (pc' := 58) rfl ?_)
            exact fr_zret0 (v := (0 : Int32)) (Or.inl rfl) rfl rfl dd_Reader_readText_58
          · exact fr_ret rfl
        · refine fr_pc (pc' := 40) rfl ?_
          refine fp_aload_n (i := 0) (r := p0) dd_Reader_readText_40 rfl rfl (fr_pc (pc' := 41) rfl ?_)
          refine fr_callV (stk := []) (As := []) cl_7 (ok_Reader_readOrder p0) mt_Reader_readOrder rfl rfl sw_543 sw_545 sp_6 (by decide) (Nat.le_of_ble_eq_true rfl) dd_Reader_readText_41 (fun x11 => fr_to (pc' := 44) (env' := [some (sf_rv p0), some (sf_rv p1), some (.int p2), some (.int b5)]) (stk' := [.int x11]) rfl rfl rfl ?_)
          refine fr_if_eq (tgt := 57) dd_Reader_readText_44 rfl (fun _ => ?_) (fun _ => ?_)
          · refine fp_iconst (v := (0 : Int32)) dd_Reader_readText_57 (by decide) (fr_pc (pc' := 58) rfl ?_)
            exact fr_zret0 (v := (0 : Int32)) (Or.inl rfl) rfl rfl dd_Reader_readText_58
          · refine fr_pc (pc' := 47) rfl ?_
            refine fp_goto (tgt := 59) dd_Reader_readText_47 rfl ?_
            exact fr_ret rfl
      · refine fp_aload_n (i := 0) (r := p0) dd_Reader_readText_59 rfl rfl (fr_pc (pc' := 60) rfl ?_)
        refine fr_gR cl_7 1 (by decide) rfl sw_301 dd_Reader_readText_60 (fun x14 => fr_pc (pc' := 63) rfl ?_)
        refine fp_ldcS (i := 20) rfl (by decide) rfl rfl dd_Reader_readText_63 (fr_pc (pc' := 65) rfl ?_)
        refine fr_callV (stk := []) (As := [.float (UInt32.ofNat 20)]) cl_9 (ok_Tokens_isWord x14 (UInt32.ofNat 20)) mt_Tokens_isWord rfl rfl sw_552 sw_553 sw_554 (by decide) (Nat.le_of_ble_eq_true rfl) dd_Reader_readText_65 (fun x15 => fr_to (pc' := 68) (env' := [some (sf_rv p0), some (sf_rv p1), some (.int p2), some (.int b5)]) (stk' := [.int x15]) rfl rfl rfl ?_)
        refine fr_or (l1 := (fun (v21 : (Unit)) => sf_p 89 [some (sf_rv p0), some (sf_rv p1), some (.int p2), some (.int b5)] [])) ?_ (fun v21 => ?_)
        · refine fr_if_eq (tgt := 89) dd_Reader_readText_68 rfl (fun _ => ?_) (fun _ => ?_)
          · exact fr_ret rfl
          · refine fr_pc (pc' := 71) rfl ?_
            refine fp_aload_n (i := 0) (r := p0) dd_Reader_readText_71 rfl rfl (fr_pc (pc' := 72) rfl ?_)
            refine fr_gR cl_7 1 (by decide) rfl sw_301 dd_Reader_readText_72 (fun x17 => fr_pc (pc' := 75) rfl ?_)
            refine fr_callV (stk := []) (As := []) cl_9 (ok_Tokens_step x17) mt_Tokens_step rfl rfl sw_612 sw_613 sw_614 (by decide) (Nat.le_of_ble_eq_true rfl) dd_Reader_readText_75 (fun u18 => fr_to (pc' := 78) (env' := [some (sf_rv p0), some (sf_rv p1), some (.int p2), some (.int b5)]) (stk' := []) rfl rfl rfl ?_)
            refine fp_aload_n (i := 0) (r := p0) dd_Reader_readText_78 rfl rfl (fr_pc (pc' := 79) rfl ?_)
            refine fp_iconst (v := (0 : Int32)) dd_Reader_readText_79 (by decide) (fr_pc (pc' := 80) rfl ?_)
            refine fp_iconst (v := (0 : Int32)) dd_Reader_readText_80 (by decide) (fr_pc (pc' := 81) rfl ?_)
            refine fr_callS (stk := []) (ok_Reader_readTest sf_deep p0 (0 : Int32) (0 : Int32)) mt_Reader_readTest rfl rfl sw_686 sw_687 (by decide) (Nat.le_of_ble_eq_true rfl) dd_Reader_readText_81 (fun x19 => fr_to (pc' := 84) (env' := [some (sf_rv p0), some (sf_rv p1), some (.int p2), some (.int b5)]) (stk' := [.int x19]) rfl rfl rfl ?_)
            refine fr_if_ne (tgt := 89) dd_Reader_readText_84 rfl (fun _ => ?_) (fun _ => ?_)
            · refine fr_pc (pc' := 87) rfl ?_
              refine fp_iconst (v := (0 : Int32)) dd_Reader_readText_87 (by decide) (fr_pc (pc' := 88) rfl ?_)
              exact fr_zret0 (v := (0 : Int32)) (Or.inl rfl) rfl rfl dd_Reader_readText_88
            · exact fr_ret rfl
        · refine fp_aload_n (i := 0) (r := p0) dd_Reader_readText_89 rfl rfl (fr_pc (pc' := 90) rfl ?_)
          refine fr_gR cl_7 0 (by decide) rfl sw_299 dd_Reader_readText_90 (fun x22 => fr_pc (pc' := 93) rfl ?_)
          refine fr_callV (stk := []) (As := []) cl_6 (ok_Program_closeClause x22) mt_Program_closeClause rfl rfl sw_704 sw_705 sw_706 (by decide) (Nat.le_of_ble_eq_true rfl) dd_Reader_readText_93 (fun u23 => fr_to (pc' := 96) (env' := [some (sf_rv p0), some (sf_rv p1), some (.int p2), some (.int b5)]) (stk' := []) rfl rfl rfl ?_)
          refine fp_aload_n (i := 0) (r := p0) dd_Reader_readText_96 rfl rfl (fr_pc (pc' := 97) rfl ?_)
          refine fr_gR cl_7 1 (by decide) rfl sw_301 dd_Reader_readText_97 (fun x24 => fr_pc (pc' := 100) rfl ?_)
          refine fr_callV (stk := []) (As := []) cl_9 (ok_Tokens_isEnd x24) mt_Tokens_isEnd rfl rfl sw_708 sw_709 sw_710 (by decide) (Nat.le_of_ble_eq_true rfl) dd_Reader_readText_100 (fun x25 => fr_to (pc' := 103) (env' := [some (sf_rv p0), some (sf_rv p1), some (.int p2), some (.int b5)]) (stk' := [.int x25]) rfl rfl rfl ?_)
          refine fr_if_eq (tgt := 108) dd_Reader_readText_103 rfl (fun _ => ?_) (fun _ => ?_)
          · refine fp_aload_n (i := 0) (r := p0) dd_Reader_readText_108 rfl rfl (fr_pc (pc' := 109) rfl ?_)
            refine fr_gR cl_7 1 (by decide) rfl sw_301 dd_Reader_readText_109 (fun x27 => fr_pc (pc' := 112) rfl ?_)
            refine fp_bipush (v := (59 : Int32)) dd_Reader_readText_112 (by decide) (fr_pc (pc' := 114) rfl ?_)
            refine fr_callV (stk := []) (As := [.int (59 : Int32)]) cl_9 (ok_Tokens_isSign x27 (59 : Int32)) mt_Tokens_isSign rfl rfl sw_635 sw_636 sw_637 (by decide) (Nat.le_of_ble_eq_true rfl) dd_Reader_readText_114 (fun x28 => fr_to (pc' := 117) (env' := [some (sf_rv p0), some (sf_rv p1), some (.int p2), some (.int b5)]) (stk' := [.int x28]) rfl rfl rfl ?_)
            refine fr_if_ne (tgt := 122) dd_Reader_readText_117 rfl (fun _ => ?_) (fun _ => ?_)
            · refine fr_pc (pc' := 120) rfl ?_
              refine fp_iconst (v := (0 : Int32)) dd_Reader_readText_120 (by decide) (fr_pc (pc' := 121) rfl ?_)
              exact fr_zret0 (v := (0 : Int32)) (Or.inl rfl) rfl rfl dd_Reader_readText_121
            · refine fp_aload_n (i := 0) (r := p0) dd_Reader_readText_122 rfl rfl (fr_pc (pc' := 123) rfl ?_)
              refine fr_gR cl_7 1 (by decide) rfl sw_301 dd_Reader_readText_123 (fun x30 => fr_pc (pc' := 126) rfl ?_)
              refine fr_callV (stk := []) (As := []) cl_9 (ok_Tokens_step x30) mt_Tokens_step rfl rfl sw_612 sw_613 sw_614 (by decide) (Nat.le_of_ble_eq_true rfl) dd_Reader_readText_126 (fun u31 => fr_to (pc' := 129) (env' := [some (sf_rv p0), some (sf_rv p1), some (.int p2), some (.int b5)]) (stk' := []) rfl rfl rfl ?_)
              refine fr_niinc (i := 3) (x := b5) (w := (1 : Int32)) dd_Reader_readText_129 rfl (by decide) (Nat.le_of_ble_eq_true rfl) (fun _ => c1_i rfl) (fun y32 => fr_to (pc' := 132) (env' := [some (sf_rv p0), some (sf_rv p1), some (.int p2), some (.int y32)]) (stk' := []) rfl rfl rfl ?_)
              refine fp_goto (tgt := 27) dd_Reader_readText_132 rfl ?_
              exact fr_ret rfl
          · refine fr_pc (pc' := 106) rfl ?_
            refine fp_iconst (v := (1 : Int32)) dd_Reader_readText_106 (by decide) (fr_pc (pc' := 107) rfl ?_)
            exact fr_zret0 (v := (1 : Int32)) (Or.inr rfl) rfl rfl dd_Reader_readText_107
  · refine fp_iconst (v := (0 : Int32)) dd_Reader_readText_135 (by decide) (fr_pc (pc' := 136) rfl ?_)
    exact fr_zret0 (v := (0 : Int32)) (Or.inl rfl) rfl rfl dd_Reader_readText_136
theorem mt_Reader_place : sf_Mt ({ cls := "SplitFares$Reader", name := "place", desc := "()I" } : Jvm.MethodName) prog_8_method_2_code 1 (some .int) 0 := ⟨sw_719, sw_9, ⟨by decide, by decide, by decide +kernel⟩, by decide⟩
theorem dd_Reader_place_0 : decode prog_8_method_2_code 0 = .ok (.aload_n 0, 1) := by decide +kernel
theorem dd_Reader_place_1 : decode prog_8_method_2_code 1 = .ok (.getfield 21, 3) := by decide +kernel
theorem dd_Reader_place_4 : decode prog_8_method_2_code 4 = .ok (.invokevirtual 33, 3) := by decide +kernel
theorem dd_Reader_place_7 : decode prog_8_method_2_code 7 = .ok (.ireturn, 1) := by decide +kernel
def jx_Reader_place (p0 : Option Nat) : sf_M (Int32) :=
  sf_bnd (sf_gR 7 1 p0) fun x1 =>
  sf_bnd (sf_rc 9 x1 (jx_Tokens_place x1)) fun x2 =>
  sf_ret x2
set_option maxRecDepth 20000 in
set_option maxHeartbeats 4000000 in
theorem ok_Reader_place (p0 : Option Nat) : sf_Ok ({ cls := "SplitFares$Reader", name := "place", desc := "()I" } : Jvm.MethodName) prog_8_method_2_code 1 (some .int) 1 [sf_rv p0] (jx_Reader_place p0) (fun r => some (.int r)) := by
  refine sf_Ok.of (env := [some (sf_rv p0)]) (plainFor_of_name (by decide)) [false] (fun G => ⟨pk_r, trivial⟩) (Nat.le_of_ble_eq_true rfl) rfl (fun X => ?_)
  unfold jx_Reader_place
  refine fp_aload_n (i := 0) (r := p0) dd_Reader_place_0 rfl rfl (fr_pc (pc' := 1) rfl ?_)
  refine fr_gR cl_7 1 (by decide) rfl sw_301 dd_Reader_place_1 (fun x1 => fr_pc (pc' := 4) rfl ?_)
  refine fr_callV (stk := []) (As := []) cl_9 (ok_Tokens_place x1) mt_Tokens_place rfl rfl sw_720 sw_721 sw_722 (by decide) (Nat.le_of_ble_eq_true rfl) dd_Reader_place_4 (fun x2 => fr_to (pc' := 7) (env' := [some (sf_rv p0)]) (stk' := [.int x2]) rfl rfl rfl ?_)
  exact fr_iret (v := x2) rfl rfl dd_Reader_place_7
