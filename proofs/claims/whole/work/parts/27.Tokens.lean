/-! Tokens: its methods as plain functions, and that the bytecode runs them (printed by program). -/
theorem mt_Tokens_init : sf_Mt ({ cls := "SplitFares$Tokens", name := "<init>", desc := "()V" } : Jvm.MethodName) prog_10_method_1_code 1 none 0 := ⟨sw_269, sw_11, ⟨by decide, by decide, by decide +kernel⟩, by decide⟩
theorem dd_Tokens_init_0 : decode prog_10_method_1_code 0 = .ok (.aload_n 0, 1) := by decide +kernel
theorem dd_Tokens_init_1 : decode prog_10_method_1_code 1 = .ok (.invokespecial 3, 3) := by decide +kernel
theorem dd_Tokens_init_4 : decode prog_10_method_1_code 4 = .ok (.aload_n 0, 1) := by decide +kernel
theorem dd_Tokens_init_5 : decode prog_10_method_1_code 5 = .ok (.sipush 400, 3) := by decide +kernel
theorem dd_Tokens_init_8 : decode prog_10_method_1_code 8 = .ok (.newarray .int, 2) := by decide +kernel
theorem dd_Tokens_init_10 : decode prog_10_method_1_code 10 = .ok (.putfield 9, 3) := by decide +kernel
theorem dd_Tokens_init_13 : decode prog_10_method_1_code 13 = .ok (.aload_n 0, 1) := by decide +kernel
theorem dd_Tokens_init_14 : decode prog_10_method_1_code 14 = .ok (.sipush 401, 3) := by decide +kernel
theorem dd_Tokens_init_17 : decode prog_10_method_1_code 17 = .ok (.newarray .int, 2) := by decide +kernel
theorem dd_Tokens_init_19 : decode prog_10_method_1_code 19 = .ok (.putfield 15, 3) := by decide +kernel
theorem dd_Tokens_init_22 : decode prog_10_method_1_code 22 = .ok (.aload_n 0, 1) := by decide +kernel
theorem dd_Tokens_init_23 : decode prog_10_method_1_code 23 = .ok (.sipush 401, 3) := by decide +kernel
theorem dd_Tokens_init_26 : decode prog_10_method_1_code 26 = .ok (.newarray .int, 2) := by decide +kernel
theorem dd_Tokens_init_28 : decode prog_10_method_1_code 28 = .ok (.putfield 18, 3) := by decide +kernel
theorem dd_Tokens_init_31 : decode prog_10_method_1_code 31 = .ok (.aload_n 0, 1) := by decide +kernel
theorem dd_Tokens_init_32 : decode prog_10_method_1_code 32 = .ok (.sipush 401, 3) := by decide +kernel
theorem dd_Tokens_init_35 : decode prog_10_method_1_code 35 = .ok (.newarray .int, 2) := by decide +kernel
theorem dd_Tokens_init_37 : decode prog_10_method_1_code 37 = .ok (.putfield 21, 3) := by decide +kernel
theorem dd_Tokens_init_40 : decode prog_10_method_1_code 40 = .ok (.aload_n 0, 1) := by decide +kernel
theorem dd_Tokens_init_41 : decode prog_10_method_1_code 41 = .ok (.iconst 0, 1) := by decide +kernel
theorem dd_Tokens_init_42 : decode prog_10_method_1_code 42 = .ok (.putfield 24, 3) := by decide +kernel
theorem dd_Tokens_init_45 : decode prog_10_method_1_code 45 = .ok (.aload_n 0, 1) := by decide +kernel
theorem dd_Tokens_init_46 : decode prog_10_method_1_code 46 = .ok (.iconst 0, 1) := by decide +kernel
theorem dd_Tokens_init_47 : decode prog_10_method_1_code 47 = .ok (.putfield 28, 3) := by decide +kernel
theorem dd_Tokens_init_50 : decode prog_10_method_1_code 50 = .ok (.return_, 1) := by decide +kernel
def jx_Tokens_init (p0 : Option Nat) : sf_M (Unit) :=
  sf_bnd (sf_rc 9 p0 (sf_ret ())) fun _ =>
  sf_bnd (sf_newA 0 (400 : Int32)) fun x1 =>
  sf_bnd (sf_pR 9 0 p0 x1) fun _ =>
  sf_bnd (sf_newA 0 (401 : Int32)) fun x2 =>
  sf_bnd (sf_pR 9 1 p0 x2) fun _ =>
  sf_bnd (sf_newA 0 (401 : Int32)) fun x3 =>
  sf_bnd (sf_pR 9 2 p0 x3) fun _ =>
  sf_bnd (sf_newA 0 (401 : Int32)) fun x4 =>
  sf_bnd (sf_pR 9 3 p0 x4) fun _ =>
  sf_bnd (sf_pI 9 4 p0 (0 : Int32)) fun _ =>
  sf_bnd (sf_pI 9 5 p0 (0 : Int32)) fun _ =>
  sf_ret ()
set_option maxRecDepth 20000 in
set_option maxHeartbeats 4000000 in
theorem ok_Tokens_init (p0 : Option Nat) : sf_Ok ({ cls := "SplitFares$Tokens", name := "<init>", desc := "()V" } : Jvm.MethodName) prog_10_method_1_code 1 none 1 [sf_rv p0] (jx_Tokens_init p0) (fun _ => none) := by
  refine sf_Ok.of (env := [some (sf_rv p0)]) (plainFor_of_name (by decide)) [false] (fun G => ⟨pk_r, trivial⟩) (Nat.le_of_ble_eq_true rfl) rfl (fun X => ?_)
  unfold jx_Tokens_init
  refine fp_aload_n (i := 0) (r := p0) dd_Tokens_init_0 rfl rfl (fr_pc (pc' := 1) rfl ?_)
  refine fr_obj (ci := 9) (by decide) sw_270 sw_27 sw_28 (Nat.le_of_ble_eq_true rfl) (Nat.le_of_ble_eq_true rfl) dd_Tokens_init_1 (fr_pc (pc' := 4) rfl ?_)
  refine fp_aload_n (i := 0) (r := p0) dd_Tokens_init_4 rfl rfl (fr_pc (pc' := 5) rfl ?_)
  refine fp_sipush (v := (400 : Int32)) dd_Tokens_init_5 (by decide) (fr_pc (pc' := 8) rfl ?_)
  refine fr_newI dd_Tokens_init_8 (fun x1 => fr_pc (pc' := 10) rfl ?_)
  refine fr_pRg cl_9 0 (by decide) rfl sw_271 (Or.inr ⟨rfl, rfl, rfl⟩) (Or.inr ⟨_, rfl⟩) dd_Tokens_init_10 (fr_pc (pc' := 13) rfl ?_)
  refine fp_aload_n (i := 0) (r := p0) dd_Tokens_init_13 rfl rfl (fr_pc (pc' := 14) rfl ?_)
  refine fp_sipush (v := (401 : Int32)) dd_Tokens_init_14 (by decide) (fr_pc (pc' := 17) rfl ?_)
  refine fr_newI dd_Tokens_init_17 (fun x2 => fr_pc (pc' := 19) rfl ?_)
  refine fr_pRg cl_9 1 (by decide) rfl sw_272 (Or.inr ⟨rfl, rfl, rfl⟩) (Or.inr ⟨_, rfl⟩) dd_Tokens_init_19 (fr_pc (pc' := 22) rfl ?_)
  refine fp_aload_n (i := 0) (r := p0) dd_Tokens_init_22 rfl rfl (fr_pc (pc' := 23) rfl ?_)
  refine fp_sipush (v := (401 : Int32)) dd_Tokens_init_23 (by decide) (fr_pc (pc' := 26) rfl ?_)
  refine fr_newI dd_Tokens_init_26 (fun x3 => fr_pc (pc' := 28) rfl ?_)
  refine fr_pRg cl_9 2 (by decide) rfl sw_273 (Or.inr ⟨rfl, rfl, rfl⟩) (Or.inr ⟨_, rfl⟩) dd_Tokens_init_28 (fr_pc (pc' := 31) rfl ?_)
  refine fp_aload_n (i := 0) (r := p0) dd_Tokens_init_31 rfl rfl (fr_pc (pc' := 32) rfl ?_)
  refine fp_sipush (v := (401 : Int32)) dd_Tokens_init_32 (by decide) (fr_pc (pc' := 35) rfl ?_)
  refine fr_newI dd_Tokens_init_35 (fun x4 => fr_pc (pc' := 37) rfl ?_)
  refine fr_pRg cl_9 3 (by decide) rfl sw_274 (Or.inr ⟨rfl, rfl, rfl⟩) (Or.inr ⟨_, rfl⟩) dd_Tokens_init_37 (fr_pc (pc' := 40) rfl ?_)
  refine fp_aload_n (i := 0) (r := p0) dd_Tokens_init_40 rfl rfl (fr_pc (pc' := 41) rfl ?_)
  refine fp_iconst (v := (0 : Int32)) dd_Tokens_init_41 (by decide) (fr_pc (pc' := 42) rfl ?_)
  refine fr_pI cl_9 4 (by decide) rfl sw_275 rfl ⟨rfl, rfl⟩ dd_Tokens_init_42 (fr_pc (pc' := 45) rfl ?_)
  refine fp_aload_n (i := 0) (r := p0) dd_Tokens_init_45 rfl rfl (fr_pc (pc' := 46) rfl ?_)
  refine fp_iconst (v := (0 : Int32)) dd_Tokens_init_46 (by decide) (fr_pc (pc' := 47) rfl ?_)
  refine fr_pI cl_9 5 (by decide) rfl sw_276 rfl ⟨rfl, rfl⟩ dd_Tokens_init_47 (fr_pc (pc' := 50) rfl ?_)
  exact fr_vret rfl rfl dd_Tokens_init_50
theorem mt_Tokens_kindOf : sf_Mt ({ cls := "SplitFares$Tokens", name := "kindOf", desc := "(I)I" } : Jvm.MethodName) prog_10_method_3_code 1 (some .int) 1 := ⟨sw_525, sw_11, ⟨by decide, by decide, by decide +kernel⟩, by decide⟩
theorem dd_Tokens_kindOf_0 : decode prog_10_method_3_code 0 = .ok (.iload_n 0, 1) := by decide +kernel
theorem dd_Tokens_kindOf_1 : decode prog_10_method_3_code 1 = .ok (.bipush 97, 2) := by decide +kernel
theorem dd_Tokens_kindOf_3 : decode prog_10_method_3_code 3 = .ok (.if_icmp .lt 11, 3) := by decide +kernel
theorem dd_Tokens_kindOf_6 : decode prog_10_method_3_code 6 = .ok (.iload_n 0, 1) := by decide +kernel
theorem dd_Tokens_kindOf_7 : decode prog_10_method_3_code 7 = .ok (.bipush 122, 2) := by decide +kernel
theorem dd_Tokens_kindOf_9 : decode prog_10_method_3_code 9 = .ok (.if_icmp .gt 5, 3) := by decide +kernel
theorem dd_Tokens_kindOf_12 : decode prog_10_method_3_code 12 = .ok (.iconst 1, 1) := by decide +kernel
theorem dd_Tokens_kindOf_13 : decode prog_10_method_3_code 13 = .ok (.ireturn, 1) := by decide +kernel
theorem dd_Tokens_kindOf_14 : decode prog_10_method_3_code 14 = .ok (.iload_n 0, 1) := by decide +kernel
theorem dd_Tokens_kindOf_15 : decode prog_10_method_3_code 15 = .ok (.bipush 48, 2) := by decide +kernel
theorem dd_Tokens_kindOf_17 : decode prog_10_method_3_code 17 = .ok (.if_icmp .lt 11, 3) := by decide +kernel
theorem dd_Tokens_kindOf_20 : decode prog_10_method_3_code 20 = .ok (.iload_n 0, 1) := by decide +kernel
theorem dd_Tokens_kindOf_21 : decode prog_10_method_3_code 21 = .ok (.bipush 57, 2) := by decide +kernel
theorem dd_Tokens_kindOf_23 : decode prog_10_method_3_code 23 = .ok (.if_icmp .gt 5, 3) := by decide +kernel
theorem dd_Tokens_kindOf_26 : decode prog_10_method_3_code 26 = .ok (.iconst 2, 1) := by decide +kernel
theorem dd_Tokens_kindOf_27 : decode prog_10_method_3_code 27 = .ok (.ireturn, 1) := by decide +kernel
theorem dd_Tokens_kindOf_28 : decode prog_10_method_3_code 28 = .ok (.iload_n 0, 1) := by decide +kernel
theorem dd_Tokens_kindOf_29 : decode prog_10_method_3_code 29 = .ok (.bipush 32, 2) := by decide +kernel
theorem dd_Tokens_kindOf_31 : decode prog_10_method_3_code 31 = .ok (.if_icmp .ne 7, 3) := by decide +kernel
theorem dd_Tokens_kindOf_34 : decode prog_10_method_3_code 34 = .ok (.iconst 4, 1) := by decide +kernel
theorem dd_Tokens_kindOf_35 : decode prog_10_method_3_code 35 = .ok (.goto 4, 3) := by decide +kernel
theorem dd_Tokens_kindOf_38 : decode prog_10_method_3_code 38 = .ok (.iconst 3, 1) := by decide +kernel
theorem dd_Tokens_kindOf_39 : decode prog_10_method_3_code 39 = .ok (.ireturn, 1) := by decide +kernel
def jx_Tokens_kindOf (p0 : Int32) : sf_M (Int32) :=
  sf_or (α := Int32) (β := (Unit)) (
  if p0 < (97 : Int32) then (
  sf_ret (.inr ())
  ) else (
  if (122 : Int32) < p0 then (
  sf_ret (.inr ())
  ) else (
  sf_ret (.inl (1 : Int32))
  )
  )
  ) (fun v3 =>
  sf_or (α := Int32) (β := (Unit)) (
  if p0 < (48 : Int32) then (
  sf_ret (.inr ())
  ) else (
  if (57 : Int32) < p0 then (
  sf_ret (.inr ())
  ) else (
  sf_ret (.inl (2 : Int32))
  )
  )
  ) (fun v6 =>
  if p0 = (32 : Int32) then (
  sf_ret (4 : Int32)
  ) else (
  sf_ret (3 : Int32)
  )
  )
  )
set_option maxRecDepth 20000 in
set_option maxHeartbeats 4000000 in
theorem ok_Tokens_kindOf (p0 : Int32) : sf_Ok ({ cls := "SplitFares$Tokens", name := "kindOf", desc := "(I)I" } : Jvm.MethodName) prog_10_method_3_code 1 (some .int) 0 [.int p0] (jx_Tokens_kindOf p0) (fun r => some (.int r)) := by
  refine sf_Ok.of (env := [some (.int p0)]) (plainFor_of_name (by decide)) [false] (fun G => ⟨pk_i, trivial⟩) (Nat.le_of_ble_eq_true rfl) rfl (fun X => ?_)
  unfold jx_Tokens_kindOf
  refine fp_iload_n (i := 0) (x := p0) dd_Tokens_kindOf_0 rfl rfl (fr_pc (pc' := 1) rfl ?_)
  refine fp_bipush (v := (97 : Int32)) dd_Tokens_kindOf_1 (by decide) (fr_pc (pc' := 3) rfl ?_)
  refine fr_or (l1 := (fun (v3 : (Unit)) => sf_p 14 [some (.int p0)] [])) ?_ (fun v3 => ?_)
  · refine fr_icmp_lt (tgt := 14) dd_Tokens_kindOf_3 rfl (fun _ => ?_) (fun _ => ?_)
    · exact fr_ret rfl
    · refine fr_pc (pc' := 6) rfl ?_
      refine fp_iload_n (i := 0) (x := p0) dd_Tokens_kindOf_6 rfl rfl (fr_pc (pc' := 7) rfl ?_)
      refine fp_bipush (v := (122 : Int32)) dd_Tokens_kindOf_7 (by decide) (fr_pc (pc' := 9) rfl ?_)
      refine fr_icmp_gt (tgt := 14) dd_Tokens_kindOf_9 rfl (fun _ => ?_) (fun _ => ?_)
      · exact fr_ret rfl
      · refine fr_pc (pc' := 12) rfl ?_
        refine fp_iconst (v := (1 : Int32)) dd_Tokens_kindOf_12 (by decide) (fr_pc (pc' := 13) rfl ?_)
        exact fr_iret (v := (1 : Int32)) rfl rfl dd_Tokens_kindOf_13
  · refine fp_iload_n (i := 0) (x := p0) dd_Tokens_kindOf_14 rfl rfl (fr_pc (pc' := 15) rfl ?_)
    refine fp_bipush (v := (48 : Int32)) dd_Tokens_kindOf_15 (by decide) (fr_pc (pc' := 17) rfl ?_)
    refine fr_or (l1 := (fun (v6 : (Unit)) => sf_p 28 [some (.int p0)] [])) ?_ (fun v6 => ?_)
    · refine fr_icmp_lt (tgt := 28) dd_Tokens_kindOf_17 rfl (fun _ => ?_) (fun _ => ?_)
      · exact fr_ret rfl
      · refine fr_pc (pc' := 20) rfl ?_
        refine fp_iload_n (i := 0) (x := p0) dd_Tokens_kindOf_20 rfl rfl (fr_pc (pc' := 21) rfl ?_)
        refine fp_bipush (v := (57 : Int32)) dd_Tokens_kindOf_21 (by decide) (fr_pc (pc' := 23) rfl ?_)
        refine fr_icmp_gt (tgt := 28) dd_Tokens_kindOf_23 rfl (fun _ => ?_) (fun _ => ?_)
        · exact fr_ret rfl
        · refine fr_pc (pc' := 26) rfl ?_
          refine fp_iconst (v := (2 : Int32)) dd_Tokens_kindOf_26 (by decide) (fr_pc (pc' := 27) rfl ?_)
          exact fr_iret (v := (2 : Int32)) rfl rfl dd_Tokens_kindOf_27
    · refine fp_iload_n (i := 0) (x := p0) dd_Tokens_kindOf_28 rfl rfl (fr_pc (pc' := 29) rfl ?_)
      refine fp_bipush (v := (32 : Int32)) dd_Tokens_kindOf_29 (by decide) (fr_pc (pc' := 31) rfl ?_)
      refine fr_icmp_ne (tgt := 38) dd_Tokens_kindOf_31 rfl (fun _ => ?_) (fun _ => ?_)
      · refine fr_pc (pc' := 34) rfl ?_
        refine fp_iconst (v := (4 : Int32)) dd_Tokens_kindOf_34 (by decide) (fr_pc (pc' := 35) rfl ?_)
        refine fp_goto (tgt := 39) dd_Tokens_kindOf_35 rfl ?_
        exact fr_iret (v := (4 : Int32)) rfl rfl dd_Tokens_kindOf_39
      · refine fp_iconst (v := (3 : Int32)) dd_Tokens_kindOf_38 (by decide) (fr_pc (pc' := 39) rfl ?_)
        exact fr_iret (v := (3 : Int32)) rfl rfl dd_Tokens_kindOf_39
theorem mt_Tokens_scan : sf_Mt ({ cls := "SplitFares$Tokens", name := "scan", desc := "(LSplitFares$Tape;)V" } : Jvm.MethodName) prog_10_method_2_code 7 none 1 := ⟨sw_520, sw_11, ⟨by decide, by decide, by decide +kernel⟩, by decide⟩
theorem dd_Tokens_scan_0 : decode prog_10_method_2_code 0 = .ok (.aload_n 1, 1) := by decide +kernel
theorem dd_Tokens_scan_1 : decode prog_10_method_2_code 1 = .ok (.getfield 31, 3) := by decide +kernel
theorem dd_Tokens_scan_4 : decode prog_10_method_2_code 4 = .ok (.sipush 400, 3) := by decide +kernel
theorem dd_Tokens_scan_7 : decode prog_10_method_2_code 7 = .ok (.invokestatic 36, 3) := by decide +kernel
theorem dd_Tokens_scan_10 : decode prog_10_method_2_code 10 = .ok (.istore_n 2, 1) := by decide +kernel
theorem dd_Tokens_scan_11 : decode prog_10_method_2_code 11 = .ok (.aload_n 0, 1) := by decide +kernel
theorem dd_Tokens_scan_12 : decode prog_10_method_2_code 12 = .ok (.iconst 0, 1) := by decide +kernel
theorem dd_Tokens_scan_13 : decode prog_10_method_2_code 13 = .ok (.putfield 24, 3) := by decide +kernel
theorem dd_Tokens_scan_16 : decode prog_10_method_2_code 16 = .ok (.aload_n 0, 1) := by decide +kernel
theorem dd_Tokens_scan_17 : decode prog_10_method_2_code 17 = .ok (.iconst 0, 1) := by decide +kernel
theorem dd_Tokens_scan_18 : decode prog_10_method_2_code 18 = .ok (.putfield 28, 3) := by decide +kernel
theorem dd_Tokens_scan_21 : decode prog_10_method_2_code 21 = .ok (.iconst 4, 1) := by decide +kernel
theorem dd_Tokens_scan_22 : decode prog_10_method_2_code 22 = .ok (.istore_n 3, 1) := by decide +kernel
theorem dd_Tokens_scan_23 : decode prog_10_method_2_code 23 = .ok (.iconst 0, 1) := by decide +kernel
theorem dd_Tokens_scan_24 : decode prog_10_method_2_code 24 = .ok (.istore 4, 2) := by decide +kernel
theorem dd_Tokens_scan_26 : decode prog_10_method_2_code 26 = .ok (.iload 4, 2) := by decide +kernel
theorem dd_Tokens_scan_28 : decode prog_10_method_2_code 28 = .ok (.iload_n 2, 1) := by decide +kernel
theorem dd_Tokens_scan_29 : decode prog_10_method_2_code 29 = .ok (.if_icmp .ge 126, 3) := by decide +kernel
theorem dd_Tokens_scan_32 : decode prog_10_method_2_code 32 = .ok (.aload_n 0, 1) := by decide +kernel
theorem dd_Tokens_scan_33 : decode prog_10_method_2_code 33 = .ok (.getfield 9, 3) := by decide +kernel
theorem dd_Tokens_scan_36 : decode prog_10_method_2_code 36 = .ok (.iload 4, 2) := by decide +kernel
theorem dd_Tokens_scan_38 : decode prog_10_method_2_code 38 = .ok (.aload_n 1, 1) := by decide +kernel
theorem dd_Tokens_scan_39 : decode prog_10_method_2_code 39 = .ok (.iload 4, 2) := by decide +kernel
theorem dd_Tokens_scan_41 : decode prog_10_method_2_code 41 = .ok (.invokevirtual 42, 3) := by decide +kernel
theorem dd_Tokens_scan_44 : decode prog_10_method_2_code 44 = .ok (.iastore, 1) := by decide +kernel
theorem dd_Tokens_scan_45 : decode prog_10_method_2_code 45 = .ok (.aload_n 0, 1) := by decide +kernel
theorem dd_Tokens_scan_46 : decode prog_10_method_2_code 46 = .ok (.getfield 9, 3) := by decide +kernel
theorem dd_Tokens_scan_49 : decode prog_10_method_2_code 49 = .ok (.iload 4, 2) := by decide +kernel
theorem dd_Tokens_scan_51 : decode prog_10_method_2_code 51 = .ok (.iaload, 1) := by decide +kernel
theorem dd_Tokens_scan_52 : decode prog_10_method_2_code 52 = .ok (.invokestatic 46, 3) := by decide +kernel
theorem dd_Tokens_scan_55 : decode prog_10_method_2_code 55 = .ok (.istore 5, 2) := by decide +kernel
theorem dd_Tokens_scan_57 : decode prog_10_method_2_code 57 = .ok (.iload 5, 2) := by decide +kernel
theorem dd_Tokens_scan_59 : decode prog_10_method_2_code 59 = .ok (.iload_n 3, 1) := by decide +kernel
theorem dd_Tokens_scan_60 : decode prog_10_method_2_code 60 = .ok (.if_icmp .ne 19, 3) := by decide +kernel
theorem dd_Tokens_scan_63 : decode prog_10_method_2_code 63 = .ok (.iload 5, 2) := by decide +kernel
theorem dd_Tokens_scan_65 : decode prog_10_method_2_code 65 = .ok (.iconst 1, 1) := by decide +kernel
theorem dd_Tokens_scan_66 : decode prog_10_method_2_code 66 = .ok (.if_icmp .eq 9, 3) := by decide +kernel
theorem dd_Tokens_scan_69 : decode prog_10_method_2_code 69 = .ok (.iload 5, 2) := by decide +kernel
theorem dd_Tokens_scan_71 : decode prog_10_method_2_code 71 = .ok (.iconst 2, 1) := by decide +kernel
theorem dd_Tokens_scan_72 : decode prog_10_method_2_code 72 = .ok (.if_icmp .ne 7, 3) := by decide +kernel
theorem dd_Tokens_scan_75 : decode prog_10_method_2_code 75 = .ok (.iconst 1, 1) := by decide +kernel
theorem dd_Tokens_scan_76 : decode prog_10_method_2_code 76 = .ok (.goto 4, 3) := by decide +kernel
theorem dd_Tokens_scan_79 : decode prog_10_method_2_code 79 = .ok (.iconst 0, 1) := by decide +kernel
theorem dd_Tokens_scan_80 : decode prog_10_method_2_code 80 = .ok (.istore 6, 2) := by decide +kernel
theorem dd_Tokens_scan_82 : decode prog_10_method_2_code 82 = .ok (.iload 5, 2) := by decide +kernel
theorem dd_Tokens_scan_84 : decode prog_10_method_2_code 84 = .ok (.iconst 4, 1) := by decide +kernel
theorem dd_Tokens_scan_85 : decode prog_10_method_2_code 85 = .ok (.if_icmp .eq 40, 3) := by decide +kernel
theorem dd_Tokens_scan_88 : decode prog_10_method_2_code 88 = .ok (.iload 6, 2) := by decide +kernel
theorem dd_Tokens_scan_90 : decode prog_10_method_2_code 90 = .ok (.ifCond .ne 35, 3) := by decide +kernel
theorem dd_Tokens_scan_93 : decode prog_10_method_2_code 93 = .ok (.aload_n 0, 1) := by decide +kernel
theorem dd_Tokens_scan_94 : decode prog_10_method_2_code 94 = .ok (.getfield 15, 3) := by decide +kernel
theorem dd_Tokens_scan_97 : decode prog_10_method_2_code 97 = .ok (.aload_n 0, 1) := by decide +kernel
theorem dd_Tokens_scan_98 : decode prog_10_method_2_code 98 = .ok (.getfield 24, 3) := by decide +kernel
theorem dd_Tokens_scan_101 : decode prog_10_method_2_code 101 = .ok (.iload 5, 2) := by decide +kernel
theorem dd_Tokens_scan_103 : decode prog_10_method_2_code 103 = .ok (.iastore, 1) := by decide +kernel
theorem dd_Tokens_scan_104 : decode prog_10_method_2_code 104 = .ok (.aload_n 0, 1) := by decide +kernel
theorem dd_Tokens_scan_105 : decode prog_10_method_2_code 105 = .ok (.getfield 18, 3) := by decide +kernel
theorem dd_Tokens_scan_108 : decode prog_10_method_2_code 108 = .ok (.aload_n 0, 1) := by decide +kernel
theorem dd_Tokens_scan_109 : decode prog_10_method_2_code 109 = .ok (.getfield 24, 3) := by decide +kernel
theorem dd_Tokens_scan_112 : decode prog_10_method_2_code 112 = .ok (.iload 4, 2) := by decide +kernel
theorem dd_Tokens_scan_114 : decode prog_10_method_2_code 114 = .ok (.iastore, 1) := by decide +kernel
theorem dd_Tokens_scan_115 : decode prog_10_method_2_code 115 = .ok (.aload_n 0, 1) := by decide +kernel
theorem dd_Tokens_scan_116 : decode prog_10_method_2_code 116 = .ok (.dup, 1) := by decide +kernel
theorem dd_Tokens_scan_117 : decode prog_10_method_2_code 117 = .ok (.getfield 24, 3) := by decide +kernel
theorem dd_Tokens_scan_120 : decode prog_10_method_2_code 120 = .ok (.iconst 1, 1) := by decide +kernel
theorem dd_Tokens_scan_121 : decode prog_10_method_2_code 121 = .ok (.iadd, 1) := by decide +kernel
theorem dd_Tokens_scan_122 : decode prog_10_method_2_code 122 = .ok (.putfield 24, 3) := by decide +kernel
theorem dd_Tokens_scan_125 : decode prog_10_method_2_code 125 = .ok (.iload 5, 2) := by decide +kernel
theorem dd_Tokens_scan_127 : decode prog_10_method_2_code 127 = .ok (.iconst 4, 1) := by decide +kernel
theorem dd_Tokens_scan_128 : decode prog_10_method_2_code 128 = .ok (.if_icmp .eq 18, 3) := by decide +kernel
theorem dd_Tokens_scan_131 : decode prog_10_method_2_code 131 = .ok (.aload_n 0, 1) := by decide +kernel
theorem dd_Tokens_scan_132 : decode prog_10_method_2_code 132 = .ok (.getfield 21, 3) := by decide +kernel
theorem dd_Tokens_scan_135 : decode prog_10_method_2_code 135 = .ok (.aload_n 0, 1) := by decide +kernel
theorem dd_Tokens_scan_136 : decode prog_10_method_2_code 136 = .ok (.getfield 24, 3) := by decide +kernel
theorem dd_Tokens_scan_139 : decode prog_10_method_2_code 139 = .ok (.iconst 1, 1) := by decide +kernel
theorem dd_Tokens_scan_140 : decode prog_10_method_2_code 140 = .ok (.isub, 1) := by decide +kernel
theorem dd_Tokens_scan_141 : decode prog_10_method_2_code 141 = .ok (.iload 4, 2) := by decide +kernel
theorem dd_Tokens_scan_143 : decode prog_10_method_2_code 143 = .ok (.iconst 1, 1) := by decide +kernel
theorem dd_Tokens_scan_144 : decode prog_10_method_2_code 144 = .ok (.iadd, 1) := by decide +kernel
theorem dd_Tokens_scan_145 : decode prog_10_method_2_code 145 = .ok (.iastore, 1) := by decide +kernel
theorem dd_Tokens_scan_146 : decode prog_10_method_2_code 146 = .ok (.iload 5, 2) := by decide +kernel
theorem dd_Tokens_scan_148 : decode prog_10_method_2_code 148 = .ok (.istore_n 3, 1) := by decide +kernel
theorem dd_Tokens_scan_149 : decode prog_10_method_2_code 149 = .ok (.iinc 4 1, 3) := by decide +kernel
theorem dd_Tokens_scan_152 : decode prog_10_method_2_code 152 = .ok (.goto (-126), 3) := by decide +kernel
theorem dd_Tokens_scan_155 : decode prog_10_method_2_code 155 = .ok (.aload_n 0, 1) := by decide +kernel
theorem dd_Tokens_scan_156 : decode prog_10_method_2_code 156 = .ok (.getfield 15, 3) := by decide +kernel
theorem dd_Tokens_scan_159 : decode prog_10_method_2_code 159 = .ok (.aload_n 0, 1) := by decide +kernel
theorem dd_Tokens_scan_160 : decode prog_10_method_2_code 160 = .ok (.getfield 24, 3) := by decide +kernel
theorem dd_Tokens_scan_163 : decode prog_10_method_2_code 163 = .ok (.iconst 0, 1) := by decide +kernel
theorem dd_Tokens_scan_164 : decode prog_10_method_2_code 164 = .ok (.iastore, 1) := by decide +kernel
theorem dd_Tokens_scan_165 : decode prog_10_method_2_code 165 = .ok (.aload_n 0, 1) := by decide +kernel
theorem dd_Tokens_scan_166 : decode prog_10_method_2_code 166 = .ok (.getfield 18, 3) := by decide +kernel
theorem dd_Tokens_scan_169 : decode prog_10_method_2_code 169 = .ok (.aload_n 0, 1) := by decide +kernel
theorem dd_Tokens_scan_170 : decode prog_10_method_2_code 170 = .ok (.getfield 24, 3) := by decide +kernel
theorem dd_Tokens_scan_173 : decode prog_10_method_2_code 173 = .ok (.iload_n 2, 1) := by decide +kernel
theorem dd_Tokens_scan_174 : decode prog_10_method_2_code 174 = .ok (.iastore, 1) := by decide +kernel
theorem dd_Tokens_scan_175 : decode prog_10_method_2_code 175 = .ok (.aload_n 0, 1) := by decide +kernel
theorem dd_Tokens_scan_176 : decode prog_10_method_2_code 176 = .ok (.getfield 21, 3) := by decide +kernel
theorem dd_Tokens_scan_179 : decode prog_10_method_2_code 179 = .ok (.aload_n 0, 1) := by decide +kernel
theorem dd_Tokens_scan_180 : decode prog_10_method_2_code 180 = .ok (.getfield 24, 3) := by decide +kernel
theorem dd_Tokens_scan_183 : decode prog_10_method_2_code 183 = .ok (.iload_n 2, 1) := by decide +kernel
theorem dd_Tokens_scan_184 : decode prog_10_method_2_code 184 = .ok (.iastore, 1) := by decide +kernel
theorem dd_Tokens_scan_185 : decode prog_10_method_2_code 185 = .ok (.return_, 1) := by decide +kernel
def jx_Tokens_scan (p0 : Option Nat) (p1 : Option Nat) : sf_M (Unit) :=
  sf_bnd (sf_gI 8 1 p1) fun x1 =>
  sf_bnd (jx_Math_min x1 (400 : Int32)) fun x2 =>
  sf_bnd (sf_pI 9 4 p0 (0 : Int32)) fun _ =>
  sf_bnd (sf_pI 9 5 p0 (0 : Int32)) fun _ =>
  sf_bnd (sf_loop (β := (Int32 × Int32)) (γ := (Unit)) (fun b3 =>
  if x2 ≤ b3.2 then (
  sf_ret (.inr ())
  ) else (
  sf_bnd (sf_gR 9 0 p0) fun x5 =>
  sf_bnd (sf_rc 8 p1 (jx_Tape_at p1 b3.2)) fun x6 =>
  sf_bnd (sf_sI 0 x5 b3.2 x6) fun _ =>
  sf_bnd (sf_gR 9 0 p0) fun x7 =>
  sf_bnd (sf_aI 0 x7 b3.2) fun x8 =>
  sf_bnd (jx_Tokens_kindOf x8) fun x9 =>
  sf_bnd (α := (Int32)) (
  sf_or (α := (Int32)) (β := (Unit)) (
  if x9 = b3.1 then (
  if x9 = (1 : Int32) then (
  sf_ret (.inl (1 : Int32))
  ) else (
  if x9 = (2 : Int32) then (
  sf_ret (.inl (1 : Int32))
  ) else (
  sf_ret (.inr ())
  )
  )
  ) else (
  sf_ret (.inr ())
  )
  ) (fun v13 =>
  sf_ret (0 : Int32)
  )
  ) (fun v14 =>
  sf_bnd (α := (Unit)) (
  if x9 = (4 : Int32) then (
  sf_ret ()
  ) else (
  if v14 = 0 then (
  sf_bnd (sf_gR 9 1 p0) fun x17 =>
  sf_bnd (sf_gI 9 4 p0) fun x18 =>
  sf_bnd (sf_sI 0 x17 x18 x9) fun _ =>
  sf_bnd (sf_gR 9 2 p0) fun x19 =>
  sf_bnd (sf_gI 9 4 p0) fun x20 =>
  sf_bnd (sf_sI 0 x19 x20 b3.2) fun _ =>
  sf_bnd (sf_gI 9 4 p0) fun x21 =>
  sf_bnd (sf_pI 9 4 p0 (x21 + (1 : Int32))) fun _ =>
  sf_ret ()
  ) else (
  sf_ret ()
  )
  )
  ) (fun v22 =>
  if x9 = (4 : Int32) then (
  sf_bnd (sf_ret (b3.2 + (1 : Int32))) fun y24 =>
  sf_ret (.inl (x9, y24))
  ) else (
  sf_bnd (sf_gR 9 3 p0) fun x25 =>
  sf_bnd (sf_gI 9 4 p0) fun x26 =>
  sf_bnd (sf_sI 0 x25 (x26 - (1 : Int32)) (b3.2 + (1 : Int32))) fun _ =>
  sf_bnd (sf_ret (b3.2 + (1 : Int32))) fun y27 =>
  sf_ret (.inl (x9, y27))
  )
  )
  )
  )
  ) sf_fuel ((4 : Int32), (0 : Int32))) (fun e28 =>
  sf_bnd (sf_gR 9 1 p0) fun x29 =>
  sf_bnd (sf_gI 9 4 p0) fun x30 =>
  sf_bnd (sf_sI 0 x29 x30 (0 : Int32)) fun _ =>
  sf_bnd (sf_gR 9 2 p0) fun x31 =>
  sf_bnd (sf_gI 9 4 p0) fun x32 =>
  sf_bnd (sf_sI 0 x31 x32 x2) fun _ =>
  sf_bnd (sf_gR 9 3 p0) fun x33 =>
  sf_bnd (sf_gI 9 4 p0) fun x34 =>
  sf_bnd (sf_sI 0 x33 x34 x2) fun _ =>
  sf_ret ()
  )
set_option maxRecDepth 20000 in
set_option maxHeartbeats 4000000 in
theorem ok_Tokens_scan (p0 : Option Nat) (p1 : Option Nat) : sf_Ok ({ cls := "SplitFares$Tokens", name := "scan", desc := "(LSplitFares$Tape;)V" } : Jvm.MethodName) prog_10_method_2_code 7 none 1 [sf_rv p0, sf_rv p1] (jx_Tokens_scan p0 p1) (fun _ => none) := by
  refine sf_Ok.of (env := [some (sf_rv p0), some (sf_rv p1), none, none, none, none, none]) (plainFor_of_name (by decide)) [false, false] (fun G => ⟨pk_r, pk_r, trivial⟩) (Nat.le_of_ble_eq_true rfl) rfl (fun X => ?_)
  unfold jx_Tokens_scan
  refine fp_aload_n (i := 1) (r := p1) dd_Tokens_scan_0 rfl rfl (fr_pc (pc' := 1) rfl ?_)
  refine fr_gI cl_8 1 (by decide) rfl sw_228 dd_Tokens_scan_1 (fun x1 => fr_pc (pc' := 4) rfl ?_)
  refine fp_sipush (v := (400 : Int32)) dd_Tokens_scan_4 (by decide) (fr_pc (pc' := 7) rfl ?_)
  refine fr_callS (stk := []) (ok_Math_min x1 (400 : Int32)) mt_Math_min rfl rfl sw_521 sw_423 (by decide) (Nat.le_of_ble_eq_true rfl) dd_Tokens_scan_7 (fun x2 => fr_to (pc' := 10) (env' := [some (sf_rv p0), some (sf_rv p1), none, none, none, none, none]) (stk' := [.int x2]) rfl rfl rfl ?_)
  refine fp_istore_n (i := 2) dd_Tokens_scan_10 rfl (Nat.le_of_ble_eq_true rfl) (fun _ => c1_r rfl) (fr_to (pc' := 11) (env' := [some (sf_rv p0), some (sf_rv p1), some (.int x2), none, none, none, none]) (stk' := []) rfl rfl rfl ?_)
  refine fp_aload_n (i := 0) (r := p0) dd_Tokens_scan_11 rfl rfl (fr_pc (pc' := 12) rfl ?_)
  refine fp_iconst (v := (0 : Int32)) dd_Tokens_scan_12 (by decide) (fr_pc (pc' := 13) rfl ?_)
  refine fr_pI cl_9 4 (by decide) rfl sw_275 rfl ⟨rfl, rfl⟩ dd_Tokens_scan_13 (fr_pc (pc' := 16) rfl ?_)
  refine fp_aload_n (i := 0) (r := p0) dd_Tokens_scan_16 rfl rfl (fr_pc (pc' := 17) rfl ?_)
  refine fp_iconst (v := (0 : Int32)) dd_Tokens_scan_17 (by decide) (fr_pc (pc' := 18) rfl ?_)
  refine fr_pI cl_9 5 (by decide) rfl sw_276 rfl ⟨rfl, rfl⟩ dd_Tokens_scan_18 (fr_pc (pc' := 21) rfl ?_)
  refine fp_iconst (v := (4 : Int32)) dd_Tokens_scan_21 (by decide) (fr_pc (pc' := 22) rfl ?_)
  refine fp_istore_n (i := 3) dd_Tokens_scan_22 rfl (Nat.le_of_ble_eq_true rfl) (fun _ => c1_i rfl) (fr_to (pc' := 23) (env' := [some (sf_rv p0), some (sf_rv p1), some (.int x2), some (.int (4 : Int32)), none, none, none]) (stk' := []) rfl rfl rfl ?_)
  refine fp_iconst (v := (0 : Int32)) dd_Tokens_scan_23 (by decide) (fr_pc (pc' := 24) rfl ?_)
  refine fp_istore (i := 4) dd_Tokens_scan_24 (Nat.le_of_ble_eq_true rfl) (fun _ => c1_i rfl) (fr_to (pc' := 26) (env' := [some (sf_rv p0), some (sf_rv p1), some (.int x2), some (.int (4 : Int32)), some (.int (0 : Int32)), none, none]) (stk' := []) rfl rfl rfl ?_)
  refine fr_to (pc' := 26) (env' := [some (sf_rv p0), some (sf_rv p1), some (.int x2), some (.int (4 : Int32)), some (.int (0 : Int32)), none, none]) (stk' := []) rfl rfl rfl ?_
  refine fr_bnd (l1 := (fun (e28 : (Unit)) => sf_p 155 [some (sf_rv p0), some (sf_rv p1), some (.int x2), none, none, none, none] [])) (fr_loop (Lb := (fun (b3 : (Int32 × Int32)) => sf_p 26 [some (sf_rv p0), some (sf_rv p1), some (.int x2), some (.int b3.1), some (.int b3.2), none, none] [])) (fun b3 => ?_) _ _) (fun e28 => ?_)
  · refine fp_iload (i := 4) (x := b3.2) dd_Tokens_scan_26 rfl (fr_pc (pc' := 28) rfl ?_)
    refine fp_iload_n (i := 2) (x := x2) dd_Tokens_scan_28 rfl rfl (fr_pc (pc' := 29) rfl ?_)
    refine fr_icmp_ge (tgt := 155) dd_Tokens_scan_29 rfl (fun _ => ?_) (fun _ => ?_)
    · refine fr_wk [true, true, true, false, false, false, false] ?_
      exact fr_ret rfl
    · refine fr_pc (pc' := 32) rfl ?_
      refine fp_aload_n (i := 0) (r := p0) dd_Tokens_scan_32 rfl rfl (fr_pc (pc' := 33) rfl ?_)
      refine fr_gR cl_9 0 (by decide) rfl sw_271 dd_Tokens_scan_33 (fun x5 => fr_pc (pc' := 36) rfl ?_)
      refine fp_iload (i := 4) (x := b3.2) dd_Tokens_scan_36 rfl (fr_pc (pc' := 38) rfl ?_)
      refine fp_aload_n (i := 1) (r := p1) dd_Tokens_scan_38 rfl rfl (fr_pc (pc' := 39) rfl ?_)
      refine fp_iload (i := 4) (x := b3.2) dd_Tokens_scan_39 rfl (fr_pc (pc' := 41) rfl ?_)
      refine fr_callV (stk := [.int b3.2, sf_rv x5]) (As := [.int b3.2]) cl_8 (ok_Tape_at p1 b3.2) mt_Tape_at rfl rfl sw_522 sw_502 sw_503 (by decide) (Nat.le_of_ble_eq_true rfl) dd_Tokens_scan_41 (fun x6 => fr_to (pc' := 44) (env' := [some (sf_rv p0), some (sf_rv p1), some (.int x2), some (.int b3.1), some (.int b3.2), none, none]) (stk' := [.int x6, .int b3.2, sf_rv x5]) rfl rfl rfl ?_)
      refine fr_sI0 dd_Tokens_scan_44 (fr_pc (pc' := 45) rfl ?_)
      refine fp_aload_n (i := 0) (r := p0) dd_Tokens_scan_45 rfl rfl (fr_pc (pc' := 46) rfl ?_)
      refine fr_gR cl_9 0 (by decide) rfl sw_271 dd_Tokens_scan_46 (fun x7 => fr_pc (pc' := 49) rfl ?_)
      refine fp_iload (i := 4) (x := b3.2) dd_Tokens_scan_49 rfl (fr_pc (pc' := 51) rfl ?_)
      refine fr_aI0 dd_Tokens_scan_51 (fun x8 => fr_pc (pc' := 52) rfl ?_)
      refine fr_callS (stk := []) (ok_Tokens_kindOf x8) mt_Tokens_kindOf rfl rfl sw_523 sw_524 (by decide) (Nat.le_of_ble_eq_true rfl) dd_Tokens_scan_52 (fun x9 => fr_to (pc' := 55) (env' := [some (sf_rv p0), some (sf_rv p1), some (.int x2), some (.int b3.1), some (.int b3.2), none, none]) (stk' := [.int x9]) rfl rfl rfl ?_)
      refine fp_istore (i := 5) dd_Tokens_scan_55 (Nat.le_of_ble_eq_true rfl) (fun _ => c1_i rfl) (fr_to (pc' := 57) (env' := [some (sf_rv p0), some (sf_rv p1), some (.int x2), some (.int b3.1), some (.int b3.2), some (.int x9), none]) (stk' := []) rfl rfl rfl ?_)
      refine fp_iload (i := 5) (x := x9) dd_Tokens_scan_57 rfl (fr_pc (pc' := 59) rfl ?_)
      refine fp_iload_n (i := 3) (x := b3.1) dd_Tokens_scan_59 rfl rfl (fr_pc (pc' := 60) rfl ?_)
      refine fr_bnd (l1 := (fun (v14 : (Int32)) => sf_p 80 [some (sf_rv p0), some (sf_rv p1), some (.int x2), some (.int b3.1), some (.int b3.2), some (.int x9), none] [.int v14])) ?_ (fun v14 => ?_)
      · refine fr_or (l1 := (fun (v13 : (Unit)) => sf_p 79 [some (sf_rv p0), some (sf_rv p1), some (.int x2), some (.int b3.1), some (.int b3.2), some (.int x9), none] [])) ?_ (fun v13 => ?_)
        · refine fr_icmp_ne (tgt := 79) dd_Tokens_scan_60 rfl (fun _ => ?_) (fun _ => ?_)
          · refine fr_pc (pc' := 63) rfl ?_
            refine fp_iload (i := 5) (x := x9) dd_Tokens_scan_63 rfl (fr_pc (pc' := 65) rfl ?_)
            refine fp_iconst (v := (1 : Int32)) dd_Tokens_scan_65 (by decide) (fr_pc (pc' := 66) rfl ?_)
            refine fr_icmp_eq (tgt := 75) dd_Tokens_scan_66 rfl (fun _ => ?_) (fun _ => ?_)
            · refine fp_iconst (v := (1 : Int32)) dd_Tokens_scan_75 (by decide) (fr_pc (pc' := 76) rfl ?_)
              refine fp_goto (tgt := 80) dd_Tokens_scan_76 rfl ?_
              exact fr_ret rfl
            · refine fr_pc (pc' := 69) rfl ?_
              refine fp_iload (i := 5) (x := x9) dd_Tokens_scan_69 rfl (fr_pc (pc' := 71) rfl ?_)
              refine fp_iconst (v := (2 : Int32)) dd_Tokens_scan_71 (by decide) (fr_pc (pc' := 72) rfl ?_)
              refine fr_icmp_ne (tgt := 79) dd_Tokens_scan_72 rfl (fun _ => ?_) (fun _ => ?_)
              · refine fr_pc (pc' := 75) rfl ?_
                refine fp_iconst (v := (1 : Int32)) dd_Tokens_scan_75 (by decide) (fr_pc (pc' := 76) rfl ?_)
                refine fp_goto (tgt := 80) dd_Tokens_scan_76 rfl ?_
                exact fr_ret rfl
              · exact fr_ret rfl
          · exact fr_ret rfl
        · refine fp_iconst (v := (0 : Int32)) dd_Tokens_scan_79 (by decide) (fr_pc (pc' := 80) rfl ?_)
          exact fr_ret rfl
      · refine fp_istore (i := 6) dd_Tokens_scan_80 (Nat.le_of_ble_eq_true rfl) (fun _ => c1_i rfl) (fr_to (pc' := 82) (env' := [some (sf_rv p0), some (sf_rv p1), some (.int x2), some (.int b3.1), some (.int b3.2), some (.int x9), some (.int v14)]) (stk' := []) rfl rfl rfl ?_)
        refine fp_iload (i := 5) (x := x9) dd_Tokens_scan_82 rfl (fr_pc (pc' := 84) rfl ?_)
        refine fp_iconst (v := (4 : Int32)) dd_Tokens_scan_84 (by decide) (fr_pc (pc' := 85) rfl ?_)
        refine fr_bnd (l1 := (fun (v22 : (Unit)) => sf_p 125 [some (sf_rv p0), some (sf_rv p1), some (.int x2), some (.int b3.1), some (.int b3.2), some (.int x9), some (.int v14)] [])) ?_ (fun v22 => ?_)
        · refine fr_icmp_eq (tgt := 125) dd_Tokens_scan_85 rfl (fun _ => ?_) (fun _ => ?_)
          · exact fr_ret rfl
          · refine fr_pc (pc' := 88) rfl ?_
            refine fp_iload (i := 6) (x := v14) dd_Tokens_scan_88 rfl (fr_pc (pc' := 90) rfl ?_)
            refine fr_if_ne (tgt := 125) dd_Tokens_scan_90 rfl (fun _ => ?_) (fun _ => ?_)
            · refine fr_pc (pc' := 93) rfl ?_
              refine fp_aload_n (i := 0) (r := p0) dd_Tokens_scan_93 rfl rfl (fr_pc (pc' := 94) rfl ?_)
              refine fr_gR cl_9 1 (by decide) rfl sw_272 dd_Tokens_scan_94 (fun x17 => fr_pc (pc' := 97) rfl ?_)
              refine fp_aload_n (i := 0) (r := p0) dd_Tokens_scan_97 rfl rfl (fr_pc (pc' := 98) rfl ?_)
              refine fr_gI cl_9 4 (by decide) rfl sw_275 dd_Tokens_scan_98 (fun x18 => fr_pc (pc' := 101) rfl ?_)
              refine fp_iload (i := 5) (x := x9) dd_Tokens_scan_101 rfl (fr_pc (pc' := 103) rfl ?_)
              refine fr_sI0 dd_Tokens_scan_103 (fr_pc (pc' := 104) rfl ?_)
              refine fp_aload_n (i := 0) (r := p0) dd_Tokens_scan_104 rfl rfl (fr_pc (pc' := 105) rfl ?_)
              refine fr_gR cl_9 2 (by decide) rfl sw_273 dd_Tokens_scan_105 (fun x19 => fr_pc (pc' := 108) rfl ?_)
              refine fp_aload_n (i := 0) (r := p0) dd_Tokens_scan_108 rfl rfl (fr_pc (pc' := 109) rfl ?_)
              refine fr_gI cl_9 4 (by decide) rfl sw_275 dd_Tokens_scan_109 (fun x20 => fr_pc (pc' := 112) rfl ?_)
              refine fp_iload (i := 4) (x := b3.2) dd_Tokens_scan_112 rfl (fr_pc (pc' := 114) rfl ?_)
              refine fr_sI0 dd_Tokens_scan_114 (fr_pc (pc' := 115) rfl ?_)
              refine fp_aload_n (i := 0) (r := p0) dd_Tokens_scan_115 rfl rfl (fr_pc (pc' := 116) rfl ?_)
              refine fp_dup_r dd_Tokens_scan_116 (fr_pc (pc' := 117) rfl ?_)
              refine fr_gI cl_9 4 (by decide) rfl sw_275 dd_Tokens_scan_117 (fun x21 => fr_pc (pc' := 120) rfl ?_)
              refine fp_iconst (v := (1 : Int32)) dd_Tokens_scan_120 (by decide) (fr_pc (pc' := 121) rfl ?_)
              refine fp_iadd dd_Tokens_scan_121 (fr_pc (pc' := 122) rfl ?_)
              refine fr_pI cl_9 4 (by decide) rfl sw_275 rfl ⟨rfl, rfl⟩ dd_Tokens_scan_122 (fr_pc (pc' := 125) rfl ?_)
              exact fr_ret rfl
            · exact fr_ret rfl
        · refine fp_iload (i := 5) (x := x9) dd_Tokens_scan_125 rfl (fr_pc (pc' := 127) rfl ?_)
          refine fp_iconst (v := (4 : Int32)) dd_Tokens_scan_127 (by decide) (fr_pc (pc' := 128) rfl ?_)
          refine fr_icmp_eq (tgt := 146) dd_Tokens_scan_128 rfl (fun _ => ?_) (fun _ => ?_)
          · refine fp_iload (i := 5) (x := x9) dd_Tokens_scan_146 rfl (fr_pc (pc' := 148) rfl ?_)
            refine fp_istore_n (i := 3) dd_Tokens_scan_148 rfl (Nat.le_of_ble_eq_true rfl) (fun _ => c1_i rfl) (fr_to (pc' := 149) (env' := [some (sf_rv p0), some (sf_rv p1), some (.int x2), some (.int x9), some (.int b3.2), some (.int x9), some (.int v14)]) (stk' := []) rfl rfl rfl ?_)
            refine fr_niinc (i := 4) (x := b3.2) (w := (1 : Int32)) dd_Tokens_scan_149 rfl (by decide) (Nat.le_of_ble_eq_true rfl) (fun _ => c1_i rfl) (fun y24 => fr_to (pc' := 152) (env' := [some (sf_rv p0), some (sf_rv p1), some (.int x2), some (.int x9), some (.int y24), some (.int x9), some (.int v14)]) (stk' := []) rfl rfl rfl ?_)
            refine fp_goto (tgt := 26) dd_Tokens_scan_152 rfl ?_
            refine fr_wk [true, true, true, true, true, false, false] ?_
            exact fr_ret rfl
          · refine fr_pc (pc' := 131) rfl ?_
            refine fp_aload_n (i := 0) (r := p0) dd_Tokens_scan_131 rfl rfl (fr_pc (pc' := 132) rfl ?_)
            refine fr_gR cl_9 3 (by decide) rfl sw_274 dd_Tokens_scan_132 (fun x25 => fr_pc (pc' := 135) rfl ?_)
            refine fp_aload_n (i := 0) (r := p0) dd_Tokens_scan_135 rfl rfl (fr_pc (pc' := 136) rfl ?_)
            refine fr_gI cl_9 4 (by decide) rfl sw_275 dd_Tokens_scan_136 (fun x26 => fr_pc (pc' := 139) rfl ?_)
            refine fp_iconst (v := (1 : Int32)) dd_Tokens_scan_139 (by decide) (fr_pc (pc' := 140) rfl ?_)
            refine fp_isub dd_Tokens_scan_140 (fr_pc (pc' := 141) rfl ?_)
            refine fp_iload (i := 4) (x := b3.2) dd_Tokens_scan_141 rfl (fr_pc (pc' := 143) rfl ?_)
            refine fp_iconst (v := (1 : Int32)) dd_Tokens_scan_143 (by decide) (fr_pc (pc' := 144) rfl ?_)
            refine fp_iadd dd_Tokens_scan_144 (fr_pc (pc' := 145) rfl ?_)
            refine fr_sI0 dd_Tokens_scan_145 (fr_pc (pc' := 146) rfl ?_)
            refine fp_iload (i := 5) (x := x9) dd_Tokens_scan_146 rfl (fr_pc (pc' := 148) rfl ?_)
            refine fp_istore_n (i := 3) dd_Tokens_scan_148 rfl (Nat.le_of_ble_eq_true rfl) (fun _ => c1_i rfl) (fr_to (pc' := 149) (env' := [some (sf_rv p0), some (sf_rv p1), some (.int x2), some (.int x9), some (.int b3.2), some (.int x9), some (.int v14)]) (stk' := []) rfl rfl rfl ?_)
            refine fr_niinc (i := 4) (x := b3.2) (w := (1 : Int32)) dd_Tokens_scan_149 rfl (by decide) (Nat.le_of_ble_eq_true rfl) (fun _ => c1_i rfl) (fun y27 => fr_to (pc' := 152) (env' := [some (sf_rv p0), some (sf_rv p1), some (.int x2), some (.int x9), some (.int y27), some (.int x9), some (.int v14)]) (stk' := []) rfl rfl rfl ?_)
            refine fp_goto (tgt := 26) dd_Tokens_scan_152 rfl ?_
            refine fr_wk [true, true, true, true, true, false, false] ?_
            exact fr_ret rfl
  · refine fp_aload_n (i := 0) (r := p0) dd_Tokens_scan_155 rfl rfl (fr_pc (pc' := 156) rfl ?_)
    refine fr_gR cl_9 1 (by decide) rfl sw_272 dd_Tokens_scan_156 (fun x29 => fr_pc (pc' := 159) rfl ?_)
    refine fp_aload_n (i := 0) (r := p0) dd_Tokens_scan_159 rfl rfl (fr_pc (pc' := 160) rfl ?_)
    refine fr_gI cl_9 4 (by decide) rfl sw_275 dd_Tokens_scan_160 (fun x30 => fr_pc (pc' := 163) rfl ?_)
    refine fp_iconst (v := (0 : Int32)) dd_Tokens_scan_163 (by decide) (fr_pc (pc' := 164) rfl ?_)
    refine fr_sI0 dd_Tokens_scan_164 (fr_pc (pc' := 165) rfl ?_)
    refine fp_aload_n (i := 0) (r := p0) dd_Tokens_scan_165 rfl rfl (fr_pc (pc' := 166) rfl ?_)
    refine fr_gR cl_9 2 (by decide) rfl sw_273 dd_Tokens_scan_166 (fun x31 => fr_pc (pc' := 169) rfl ?_)
    refine fp_aload_n (i := 0) (r := p0) dd_Tokens_scan_169 rfl rfl (fr_pc (pc' := 170) rfl ?_)
    refine fr_gI cl_9 4 (by decide) rfl sw_275 dd_Tokens_scan_170 (fun x32 => fr_pc (pc' := 173) rfl ?_)
    refine fp_iload_n (i := 2) (x := x2) dd_Tokens_scan_173 rfl rfl (fr_pc (pc' := 174) rfl ?_)
    refine fr_sI0 dd_Tokens_scan_174 (fr_pc (pc' := 175) rfl ?_)
    refine fp_aload_n (i := 0) (r := p0) dd_Tokens_scan_175 rfl rfl (fr_pc (pc' := 176) rfl ?_)
    refine fr_gR cl_9 3 (by decide) rfl sw_274 dd_Tokens_scan_176 (fun x33 => fr_pc (pc' := 179) rfl ?_)
    refine fp_aload_n (i := 0) (r := p0) dd_Tokens_scan_179 rfl rfl (fr_pc (pc' := 180) rfl ?_)
    refine fr_gI cl_9 4 (by decide) rfl sw_275 dd_Tokens_scan_180 (fun x34 => fr_pc (pc' := 183) rfl ?_)
    refine fp_iload_n (i := 2) (x := x2) dd_Tokens_scan_183 rfl rfl (fr_pc (pc' := 184) rfl ?_)
    refine fr_sI0 dd_Tokens_scan_184 (fr_pc (pc' := 185) rfl ?_)
    exact fr_vret rfl rfl dd_Tokens_scan_185
theorem mt_Tokens_isWord : sf_Mt ({ cls := "SplitFares$Tokens", name := "isWord", desc := "(Ljava/lang/String;)Z" } : Jvm.MethodName) prog_10_method_8_code 4 (some .boolean) 1 := ⟨sw_542, sw_11, ⟨by decide, by decide, by decide +kernel⟩, by decide⟩
theorem dd_Tokens_isWord_0 : decode prog_10_method_8_code 0 = .ok (.aload_n 0, 1) := by decide +kernel
theorem dd_Tokens_isWord_1 : decode prog_10_method_8_code 1 = .ok (.getfield 18, 3) := by decide +kernel
theorem dd_Tokens_isWord_4 : decode prog_10_method_8_code 4 = .ok (.aload_n 0, 1) := by decide +kernel
theorem dd_Tokens_isWord_5 : decode prog_10_method_8_code 5 = .ok (.getfield 28, 3) := by decide +kernel
theorem dd_Tokens_isWord_8 : decode prog_10_method_8_code 8 = .ok (.iaload, 1) := by decide +kernel
theorem dd_Tokens_isWord_9 : decode prog_10_method_8_code 9 = .ok (.istore_n 2, 1) := by decide +kernel
theorem dd_Tokens_isWord_10 : decode prog_10_method_8_code 10 = .ok (.aload_n 0, 1) := by decide +kernel
theorem dd_Tokens_isWord_11 : decode prog_10_method_8_code 11 = .ok (.getfield 15, 3) := by decide +kernel
theorem dd_Tokens_isWord_14 : decode prog_10_method_8_code 14 = .ok (.aload_n 0, 1) := by decide +kernel
theorem dd_Tokens_isWord_15 : decode prog_10_method_8_code 15 = .ok (.getfield 28, 3) := by decide +kernel
theorem dd_Tokens_isWord_18 : decode prog_10_method_8_code 18 = .ok (.iaload, 1) := by decide +kernel
theorem dd_Tokens_isWord_19 : decode prog_10_method_8_code 19 = .ok (.iconst 1, 1) := by decide +kernel
theorem dd_Tokens_isWord_20 : decode prog_10_method_8_code 20 = .ok (.if_icmp .ne 21, 3) := by decide +kernel
theorem dd_Tokens_isWord_23 : decode prog_10_method_8_code 23 = .ok (.aload_n 0, 1) := by decide +kernel
theorem dd_Tokens_isWord_24 : decode prog_10_method_8_code 24 = .ok (.getfield 21, 3) := by decide +kernel
theorem dd_Tokens_isWord_27 : decode prog_10_method_8_code 27 = .ok (.aload_n 0, 1) := by decide +kernel
theorem dd_Tokens_isWord_28 : decode prog_10_method_8_code 28 = .ok (.getfield 28, 3) := by decide +kernel
theorem dd_Tokens_isWord_31 : decode prog_10_method_8_code 31 = .ok (.iaload, 1) := by decide +kernel
theorem dd_Tokens_isWord_32 : decode prog_10_method_8_code 32 = .ok (.iload_n 2, 1) := by decide +kernel
theorem dd_Tokens_isWord_33 : decode prog_10_method_8_code 33 = .ok (.isub, 1) := by decide +kernel
theorem dd_Tokens_isWord_34 : decode prog_10_method_8_code 34 = .ok (.aload_n 1, 1) := by decide +kernel
theorem dd_Tokens_isWord_35 : decode prog_10_method_8_code 35 = .ok (.invokevirtual 49, 3) := by decide +kernel
theorem dd_Tokens_isWord_38 : decode prog_10_method_8_code 38 = .ok (.if_icmp .eq 5, 3) := by decide +kernel
theorem dd_Tokens_isWord_43 : decode prog_10_method_8_code 43 = .ok (.iconst 0, 1) := by decide +kernel
theorem dd_Tokens_isWord_44 : decode prog_10_method_8_code 44 = .ok (.istore_n 3, 1) := by decide +kernel
theorem dd_Tokens_isWord_45 : decode prog_10_method_8_code 45 = .ok (.iload_n 3, 1) := by decide +kernel
theorem dd_Tokens_isWord_46 : decode prog_10_method_8_code 46 = .ok (.aload_n 1, 1) := by decide +kernel
theorem dd_Tokens_isWord_47 : decode prog_10_method_8_code 47 = .ok (.invokevirtual 49, 3) := by decide +kernel
theorem dd_Tokens_isWord_50 : decode prog_10_method_8_code 50 = .ok (.if_icmp .ge 27, 3) := by decide +kernel
theorem dd_Tokens_isWord_53 : decode prog_10_method_8_code 53 = .ok (.aload_n 0, 1) := by decide +kernel
theorem dd_Tokens_isWord_54 : decode prog_10_method_8_code 54 = .ok (.getfield 9, 3) := by decide +kernel
theorem dd_Tokens_isWord_57 : decode prog_10_method_8_code 57 = .ok (.iload_n 2, 1) := by decide +kernel
theorem dd_Tokens_isWord_58 : decode prog_10_method_8_code 58 = .ok (.iload_n 3, 1) := by decide +kernel
theorem dd_Tokens_isWord_59 : decode prog_10_method_8_code 59 = .ok (.iadd, 1) := by decide +kernel
theorem dd_Tokens_isWord_60 : decode prog_10_method_8_code 60 = .ok (.iaload, 1) := by decide +kernel
theorem dd_Tokens_isWord_61 : decode prog_10_method_8_code 61 = .ok (.aload_n 1, 1) := by decide +kernel
theorem dd_Tokens_isWord_62 : decode prog_10_method_8_code 62 = .ok (.iload_n 3, 1) := by decide +kernel
theorem dd_Tokens_isWord_63 : decode prog_10_method_8_code 63 = .ok (.invokevirtual 54, 3) := by decide +kernel
theorem dd_Tokens_isWord_66 : decode prog_10_method_8_code 66 = .ok (.if_icmp .eq 5, 3) := by decide +kernel
theorem dd_Tokens_isWord_69 : decode prog_10_method_8_code 69 = .ok (.iconst 0, 1) := by decide +kernel
theorem dd_Tokens_isWord_70 : decode prog_10_method_8_code 70 = .ok (.ireturn, 1) := by decide +kernel
theorem dd_Tokens_isWord_71 : decode prog_10_method_8_code 71 = .ok (.iinc 3 1, 3) := by decide +kernel
theorem dd_Tokens_isWord_74 : decode prog_10_method_8_code 74 = .ok (.goto (-29), 3) := by decide +kernel
theorem dd_Tokens_isWord_77 : decode prog_10_method_8_code 77 = .ok (.iconst 1, 1) := by decide +kernel
theorem dd_Tokens_isWord_78 : decode prog_10_method_8_code 78 = .ok (.ireturn, 1) := by decide +kernel
theorem dd_Tokens_isWord_41 : decode prog_10_method_8_code 41 = .ok (.iconst 0, 1) := by decide +kernel
theorem dd_Tokens_isWord_42 : decode prog_10_method_8_code 42 = .ok (.ireturn, 1) := by decide +kernel
def jx_Tokens_isWord (p0 : Option Nat) (p1 : UInt32) : sf_M (Int32) :=
  sf_bnd (sf_gR 9 2 p0) fun x1 =>
  sf_bnd (sf_gI 9 5 p0) fun x2 =>
  sf_bnd (sf_aI 0 x1 x2) fun x3 =>
  sf_bnd (sf_gR 9 1 p0) fun x4 =>
  sf_bnd (sf_gI 9 5 p0) fun x5 =>
  sf_bnd (sf_aI 0 x4 x5) fun x6 =>
  if x6 = (1 : Int32) then (
  sf_bnd (sf_gR 9 3 p0) fun x8 =>
  sf_bnd (sf_gI 9 5 p0) fun x9 =>
  sf_bnd (sf_aI 0 x8 x9) fun x10 =>
  sf_bnd (sf_rs p1 (jx_String_length p1)) fun x11 =>
  if (x10 - x3) = x11 then (
  sf_or (α := Int32) (β := (Unit)) (sf_loop (β := (Int32)) (γ := (Int32 ⊕ (Unit))) (fun b13 =>
  sf_bnd (sf_rs p1 (jx_String_length p1)) fun x14 =>
  if x14 ≤ b13 then (
  sf_ret (.inr (.inr ()))
  ) else (
  sf_bnd (sf_gR 9 0 p0) fun x16 =>
  sf_bnd (sf_aI 0 x16 (x3 + b13)) fun x17 =>
  sf_bnd (sf_rs p1 (jx_String_charAt p1 b13)) fun x18 =>
  if x17 = x18 then (
  sf_bnd (sf_ret (b13 + (1 : Int32))) fun y20 =>
  sf_ret (.inl y20)
  ) else (
  sf_ret (.inr (.inl (0 : Int32)))
  )
  )
  ) sf_fuel (0 : Int32)) (fun e21 =>
  sf_ret (1 : Int32)
  )
  ) else (
  sf_ret (0 : Int32)
  )
  ) else (
  sf_ret (0 : Int32)
  )
set_option maxRecDepth 20000 in
set_option maxHeartbeats 4000000 in
theorem ok_Tokens_isWord (p0 : Option Nat) (p1 : UInt32) : sf_Ok ({ cls := "SplitFares$Tokens", name := "isWord", desc := "(Ljava/lang/String;)Z" } : Jvm.MethodName) prog_10_method_8_code 4 (some .boolean) 6 [sf_rv p0, .float p1] (jx_Tokens_isWord p0 p1) (fun r => some (.int r)) := by
  refine sf_Ok.of (env := [some (sf_rv p0), some (.float p1), none, none]) (plainFor_of_name (by decide)) [false, false] (fun G => ⟨pk_r, pk_s, trivial⟩) (Nat.le_of_ble_eq_true rfl) rfl (fun X => ?_)
  unfold jx_Tokens_isWord
  refine fp_aload_n (i := 0) (r := p0) dd_Tokens_isWord_0 rfl rfl (fr_pc (pc' := 1) rfl ?_)
  refine fr_gR cl_9 2 (by decide) rfl sw_273 dd_Tokens_isWord_1 (fun x1 => fr_pc (pc' := 4) rfl ?_)
  refine fp_aload_n (i := 0) (r := p0) dd_Tokens_isWord_4 rfl rfl (fr_pc (pc' := 5) rfl ?_)
  refine fr_gI cl_9 5 (by decide) rfl sw_276 dd_Tokens_isWord_5 (fun x2 => fr_pc (pc' := 8) rfl ?_)
  refine fr_aI0 dd_Tokens_isWord_8 (fun x3 => fr_pc (pc' := 9) rfl ?_)
  refine fp_istore_n (i := 2) dd_Tokens_isWord_9 rfl (Nat.le_of_ble_eq_true rfl) (fun _ => c1_s rfl) (fr_to (pc' := 10) (env' := [some (sf_rv p0), some (.float p1), some (.int x3), none]) (stk' := []) rfl rfl rfl ?_)
  refine fp_aload_n (i := 0) (r := p0) dd_Tokens_isWord_10 rfl rfl (fr_pc (pc' := 11) rfl ?_)
  refine fr_gR cl_9 1 (by decide) rfl sw_272 dd_Tokens_isWord_11 (fun x4 => fr_pc (pc' := 14) rfl ?_)
  refine fp_aload_n (i := 0) (r := p0) dd_Tokens_isWord_14 rfl rfl (fr_pc (pc' := 15) rfl ?_)
  refine fr_gI cl_9 5 (by decide) rfl sw_276 dd_Tokens_isWord_15 (fun x5 => fr_pc (pc' := 18) rfl ?_)
  refine fr_aI0 dd_Tokens_isWord_18 (fun x6 => fr_pc (pc' := 19) rfl ?_)
  refine fp_iconst (v := (1 : Int32)) dd_Tokens_isWord_19 (by decide) (fr_pc (pc' := 20) rfl ?_)
  refine fr_icmp_ne (tgt := 41) dd_Tokens_isWord_20 rfl (fun _ => ?_) (fun _ => ?_)
  · refine fr_pc (pc' := 23) rfl ?_
    refine fp_aload_n (i := 0) (r := p0) dd_Tokens_isWord_23 rfl rfl (fr_pc (pc' := 24) rfl ?_)
    refine fr_gR cl_9 3 (by decide) rfl sw_274 dd_Tokens_isWord_24 (fun x8 => fr_pc (pc' := 27) rfl ?_)
    refine fp_aload_n (i := 0) (r := p0) dd_Tokens_isWord_27 rfl rfl (fr_pc (pc' := 28) rfl ?_)
    refine fr_gI cl_9 5 (by decide) rfl sw_276 dd_Tokens_isWord_28 (fun x9 => fr_pc (pc' := 31) rfl ?_)
    refine fr_aI0 dd_Tokens_isWord_31 (fun x10 => fr_pc (pc' := 32) rfl ?_)
    refine fp_iload_n (i := 2) (x := x3) dd_Tokens_isWord_32 rfl rfl (fr_pc (pc' := 33) rfl ?_)
    refine fp_isub dd_Tokens_isWord_33 (fr_pc (pc' := 34) rfl ?_)
    refine fp_aload_ns (i := 1) (x := p1) dd_Tokens_isWord_34 rfl rfl (fr_pc (pc' := 35) rfl ?_)
    refine fr_callStr (stk := [.int (x10 - x3)]) (As := []) rfl (ok_String_length p1) mt_String_length rfl rfl sw_543 sw_544 sw_545 (by decide) (Nat.le_of_ble_eq_true rfl) dd_Tokens_isWord_35 (fun x11 => fr_to (pc' := 38) (env' := [some (sf_rv p0), some (.float p1), some (.int x3), none]) (stk' := [.int x11, .int (x10 - x3)]) rfl rfl rfl ?_)
    refine fr_icmp_eq (tgt := 43) dd_Tokens_isWord_38 rfl (fun _ => ?_) (fun _ => ?_)
    · refine fp_iconst (v := (0 : Int32)) dd_Tokens_isWord_43 (by decide) (fr_pc (pc' := 44) rfl ?_)
      refine fp_istore_n (i := 3) dd_Tokens_isWord_44 rfl (Nat.le_of_ble_eq_true rfl) (fun _ => c1_i rfl) (fr_to (pc' := 45) (env' := [some (sf_rv p0), some (.float p1), some (.int x3), some (.int (0 : Int32))]) (stk' := []) rfl rfl rfl ?_)
      refine fr_to (pc' := 45) (env' := [some (sf_rv p0), some (.float p1), some (.int x3), some (.int (0 : Int32))]) (stk' := []) rfl rfl rfl ?_
      refine fr_or (l1 := (fun (e21 : (Unit)) => sf_p 77 [some (sf_rv p0), some (.float p1), some (.int x3), none] [])) (fr_loop (Lb := (fun (b13 : (Int32)) => sf_p 45 [some (sf_rv p0), some (.float p1), some (.int x3), some (.int b13)] [])) (fun b13 => ?_) _ _) (fun e21 => ?_)
      · refine fp_iload_n (i := 3) (x := b13) dd_Tokens_isWord_45 rfl rfl (fr_pc (pc' := 46) rfl ?_)
        refine fp_aload_ns (i := 1) (x := p1) dd_Tokens_isWord_46 rfl rfl (fr_pc (pc' := 47) rfl ?_)
        refine fr_callStr (stk := [.int b13]) (As := []) rfl (ok_String_length p1) mt_String_length rfl rfl sw_543 sw_544 sw_545 (by decide) (Nat.le_of_ble_eq_true rfl) dd_Tokens_isWord_47 (fun x14 => fr_to (pc' := 50) (env' := [some (sf_rv p0), some (.float p1), some (.int x3), some (.int b13)]) (stk' := [.int x14, .int b13]) rfl rfl rfl ?_)
        refine fr_icmp_ge (tgt := 77) dd_Tokens_isWord_50 rfl (fun _ => ?_) (fun _ => ?_)
        · refine fr_wk [true, true, true, false] ?_
          exact fr_ret rfl
        · refine fr_pc (pc' := 53) rfl ?_
          refine fp_aload_n (i := 0) (r := p0) dd_Tokens_isWord_53 rfl rfl (fr_pc (pc' := 54) rfl ?_)
          refine fr_gR cl_9 0 (by decide) rfl sw_271 dd_Tokens_isWord_54 (fun x16 => fr_pc (pc' := 57) rfl ?_)
          refine fp_iload_n (i := 2) (x := x3) dd_Tokens_isWord_57 rfl rfl (fr_pc (pc' := 58) rfl ?_)
          refine fp_iload_n (i := 3) (x := b13) dd_Tokens_isWord_58 rfl rfl (fr_pc (pc' := 59) rfl ?_)
          refine fp_iadd dd_Tokens_isWord_59 (fr_pc (pc' := 60) rfl ?_)
          refine fr_aI0 dd_Tokens_isWord_60 (fun x17 => fr_pc (pc' := 61) rfl ?_)
          refine fp_aload_ns (i := 1) (x := p1) dd_Tokens_isWord_61 rfl rfl (fr_pc (pc' := 62) rfl ?_)
          refine fp_iload_n (i := 3) (x := b13) dd_Tokens_isWord_62 rfl rfl (fr_pc (pc' := 63) rfl ?_)
          refine fr_callStr (stk := [.int x17]) (As := [.int b13]) rfl (ok_String_charAt p1 b13) mt_String_charAt rfl rfl sw_553 sw_554 sw_555 (by decide) (Nat.le_of_ble_eq_true rfl) dd_Tokens_isWord_63 (fun x18 => fr_to (pc' := 66) (env' := [some (sf_rv p0), some (.float p1), some (.int x3), some (.int b13)]) (stk' := [.int x18, .int x17]) rfl rfl rfl ?_)
          refine fr_icmp_eq (tgt := 71) dd_Tokens_isWord_66 rfl (fun _ => ?_) (fun _ => ?_)
          · refine fr_niinc (i := 3) (x := b13) (w := (1 : Int32)) dd_Tokens_isWord_71 rfl (by decide) (Nat.le_of_ble_eq_true rfl) (fun _ => c1_i rfl) (fun y20 => fr_to (pc' := 74) (env' := [some (sf_rv p0), some (.float p1), some (.int x3), some (.int y20)]) (stk' := []) rfl rfl rfl ?_)
            refine fp_goto (tgt := 45) dd_Tokens_isWord_74 rfl ?_
            exact fr_ret rfl
          · refine fr_pc (pc' := 69) rfl ?_
            refine fp_iconst (v := (0 : Int32)) dd_Tokens_isWord_69 (by decide) (fr_pc (pc' := 70) rfl ?_)
            exact fr_zret0 (v := (0 : Int32)) (Or.inl rfl) rfl rfl dd_Tokens_isWord_70
      · refine fp_iconst (v := (1 : Int32)) dd_Tokens_isWord_77 (by decide) (fr_pc (pc' := 78) rfl ?_)
        exact fr_zret0 (v := (1 : Int32)) (Or.inr rfl) rfl rfl dd_Tokens_isWord_78
    · refine fr_pc (pc' := 41) rfl ?_
      refine fp_iconst (v := (0 : Int32)) dd_Tokens_isWord_41 (by decide) (fr_pc (pc' := 42) rfl ?_)
      exact fr_zret0 (v := (0 : Int32)) (Or.inl rfl) rfl rfl dd_Tokens_isWord_42
  · refine fp_iconst (v := (0 : Int32)) dd_Tokens_isWord_41 (by decide) (fr_pc (pc' := 42) rfl ?_)
    exact fr_zret0 (v := (0 : Int32)) (Or.inl rfl) rfl rfl dd_Tokens_isWord_42
theorem mt_Tokens_step : sf_Mt ({ cls := "SplitFares$Tokens", name := "step", desc := "()V" } : Jvm.MethodName) prog_10_method_4_code 1 none 0 := ⟨sw_598, sw_11, ⟨by decide, by decide, by decide +kernel⟩, by decide⟩
theorem dd_Tokens_step_0 : decode prog_10_method_4_code 0 = .ok (.aload_n 0, 1) := by decide +kernel
theorem dd_Tokens_step_1 : decode prog_10_method_4_code 1 = .ok (.getfield 28, 3) := by decide +kernel
theorem dd_Tokens_step_4 : decode prog_10_method_4_code 4 = .ok (.aload_n 0, 1) := by decide +kernel
theorem dd_Tokens_step_5 : decode prog_10_method_4_code 5 = .ok (.getfield 24, 3) := by decide +kernel
theorem dd_Tokens_step_8 : decode prog_10_method_4_code 8 = .ok (.if_icmp .ge 13, 3) := by decide +kernel
theorem dd_Tokens_step_11 : decode prog_10_method_4_code 11 = .ok (.aload_n 0, 1) := by decide +kernel
theorem dd_Tokens_step_12 : decode prog_10_method_4_code 12 = .ok (.dup, 1) := by decide +kernel
theorem dd_Tokens_step_13 : decode prog_10_method_4_code 13 = .ok (.getfield 28, 3) := by decide +kernel
theorem dd_Tokens_step_16 : decode prog_10_method_4_code 16 = .ok (.iconst 1, 1) := by decide +kernel
theorem dd_Tokens_step_17 : decode prog_10_method_4_code 17 = .ok (.iadd, 1) := by decide +kernel
theorem dd_Tokens_step_18 : decode prog_10_method_4_code 18 = .ok (.putfield 28, 3) := by decide +kernel
theorem dd_Tokens_step_21 : decode prog_10_method_4_code 21 = .ok (.return_, 1) := by decide +kernel
def jx_Tokens_step (p0 : Option Nat) : sf_M (Unit) :=
  sf_bnd (sf_gI 9 5 p0) fun x1 =>
  sf_bnd (sf_gI 9 4 p0) fun x2 =>
  if x2 ≤ x1 then (
  sf_ret ()
  ) else (
  sf_bnd (sf_gI 9 5 p0) fun x4 =>
  sf_bnd (sf_pI 9 5 p0 (x4 + (1 : Int32))) fun _ =>
  sf_ret ()
  )
set_option maxRecDepth 20000 in
set_option maxHeartbeats 4000000 in
theorem ok_Tokens_step (p0 : Option Nat) : sf_Ok ({ cls := "SplitFares$Tokens", name := "step", desc := "()V" } : Jvm.MethodName) prog_10_method_4_code 1 none 0 [sf_rv p0] (jx_Tokens_step p0) (fun _ => none) := by
  refine sf_Ok.of (env := [some (sf_rv p0)]) (plainFor_of_name (by decide)) [false] (fun G => ⟨pk_r, trivial⟩) (Nat.le_of_ble_eq_true rfl) rfl (fun X => ?_)
  unfold jx_Tokens_step
  refine fp_aload_n (i := 0) (r := p0) dd_Tokens_step_0 rfl rfl (fr_pc (pc' := 1) rfl ?_)
  refine fr_gI cl_9 5 (by decide) rfl sw_276 dd_Tokens_step_1 (fun x1 => fr_pc (pc' := 4) rfl ?_)
  refine fp_aload_n (i := 0) (r := p0) dd_Tokens_step_4 rfl rfl (fr_pc (pc' := 5) rfl ?_)
  refine fr_gI cl_9 4 (by decide) rfl sw_275 dd_Tokens_step_5 (fun x2 => fr_pc (pc' := 8) rfl ?_)
  refine fr_icmp_ge (tgt := 21) dd_Tokens_step_8 rfl (fun _ => ?_) (fun _ => ?_)
  · exact fr_vret rfl rfl dd_Tokens_step_21
  · refine fr_pc (pc' := 11) rfl ?_
    refine fp_aload_n (i := 0) (r := p0) dd_Tokens_step_11 rfl rfl (fr_pc (pc' := 12) rfl ?_)
    refine fp_dup_r dd_Tokens_step_12 (fr_pc (pc' := 13) rfl ?_)
    refine fr_gI cl_9 5 (by decide) rfl sw_276 dd_Tokens_step_13 (fun x4 => fr_pc (pc' := 16) rfl ?_)
    refine fp_iconst (v := (1 : Int32)) dd_Tokens_step_16 (by decide) (fr_pc (pc' := 17) rfl ?_)
    refine fp_iadd dd_Tokens_step_17 (fr_pc (pc' := 18) rfl ?_)
    refine fr_pI cl_9 5 (by decide) rfl sw_276 rfl ⟨rfl, rfl⟩ dd_Tokens_step_18 (fr_pc (pc' := 21) rfl ?_)
    exact fr_vret rfl rfl dd_Tokens_step_21
theorem mt_Tokens_isSign : sf_Mt ({ cls := "SplitFares$Tokens", name := "isSign", desc := "(C)Z" } : Jvm.MethodName) prog_10_method_7_code 2 (some .boolean) 1 := ⟨sw_621, sw_11, ⟨by decide, by decide, by decide +kernel⟩, by decide⟩
theorem dd_Tokens_isSign_0 : decode prog_10_method_7_code 0 = .ok (.aload_n 0, 1) := by decide +kernel
theorem dd_Tokens_isSign_1 : decode prog_10_method_7_code 1 = .ok (.getfield 15, 3) := by decide +kernel
theorem dd_Tokens_isSign_4 : decode prog_10_method_7_code 4 = .ok (.aload_n 0, 1) := by decide +kernel
theorem dd_Tokens_isSign_5 : decode prog_10_method_7_code 5 = .ok (.getfield 28, 3) := by decide +kernel
theorem dd_Tokens_isSign_8 : decode prog_10_method_7_code 8 = .ok (.iaload, 1) := by decide +kernel
theorem dd_Tokens_isSign_9 : decode prog_10_method_7_code 9 = .ok (.iconst 3, 1) := by decide +kernel
theorem dd_Tokens_isSign_10 : decode prog_10_method_7_code 10 = .ok (.if_icmp .ne 25, 3) := by decide +kernel
theorem dd_Tokens_isSign_13 : decode prog_10_method_7_code 13 = .ok (.aload_n 0, 1) := by decide +kernel
theorem dd_Tokens_isSign_14 : decode prog_10_method_7_code 14 = .ok (.getfield 9, 3) := by decide +kernel
theorem dd_Tokens_isSign_17 : decode prog_10_method_7_code 17 = .ok (.aload_n 0, 1) := by decide +kernel
theorem dd_Tokens_isSign_18 : decode prog_10_method_7_code 18 = .ok (.getfield 18, 3) := by decide +kernel
theorem dd_Tokens_isSign_21 : decode prog_10_method_7_code 21 = .ok (.aload_n 0, 1) := by decide +kernel
theorem dd_Tokens_isSign_22 : decode prog_10_method_7_code 22 = .ok (.getfield 28, 3) := by decide +kernel
theorem dd_Tokens_isSign_25 : decode prog_10_method_7_code 25 = .ok (.iaload, 1) := by decide +kernel
theorem dd_Tokens_isSign_26 : decode prog_10_method_7_code 26 = .ok (.iaload, 1) := by decide +kernel
theorem dd_Tokens_isSign_27 : decode prog_10_method_7_code 27 = .ok (.iload_n 1, 1) := by decide +kernel
theorem dd_Tokens_isSign_28 : decode prog_10_method_7_code 28 = .ok (.if_icmp .ne 7, 3) := by decide +kernel
theorem dd_Tokens_isSign_31 : decode prog_10_method_7_code 31 = .ok (.iconst 1, 1) := by decide +kernel
theorem dd_Tokens_isSign_32 : decode prog_10_method_7_code 32 = .ok (.goto 4, 3) := by decide +kernel
theorem dd_Tokens_isSign_35 : decode prog_10_method_7_code 35 = .ok (.iconst 0, 1) := by decide +kernel
theorem dd_Tokens_isSign_36 : decode prog_10_method_7_code 36 = .ok (.ireturn, 1) := by decide +kernel
def jx_Tokens_isSign (p0 : Option Nat) (p1 : Int32) : sf_M (Int32) :=
  sf_bnd (sf_gR 9 1 p0) fun x1 =>
  sf_bnd (sf_gI 9 5 p0) fun x2 =>
  sf_bnd (sf_aI 0 x1 x2) fun x3 =>
  if x3 = (3 : Int32) then (
  sf_bnd (sf_gR 9 0 p0) fun x5 =>
  sf_bnd (sf_gR 9 2 p0) fun x6 =>
  sf_bnd (sf_gI 9 5 p0) fun x7 =>
  sf_bnd (sf_aI 0 x6 x7) fun x8 =>
  sf_bnd (sf_aI 0 x5 x8) fun x9 =>
  if x9 = p1 then (
  sf_ret (1 : Int32)
  ) else (
  sf_ret (0 : Int32)
  )
  ) else (
  sf_ret (0 : Int32)
  )
set_option maxRecDepth 20000 in
set_option maxHeartbeats 4000000 in
theorem ok_Tokens_isSign (p0 : Option Nat) (p1 : Int32) : sf_Ok ({ cls := "SplitFares$Tokens", name := "isSign", desc := "(C)Z" } : Jvm.MethodName) prog_10_method_7_code 2 (some .boolean) 0 [sf_rv p0, .int p1] (jx_Tokens_isSign p0 p1) (fun r => some (.int r)) := by
  refine sf_Ok.of (env := [some (sf_rv p0), some (.int p1)]) (plainFor_of_name (by decide)) [false, false] (fun G => ⟨pk_r, pk_i, trivial⟩) (Nat.le_of_ble_eq_true rfl) rfl (fun X => ?_)
  unfold jx_Tokens_isSign
  refine fp_aload_n (i := 0) (r := p0) dd_Tokens_isSign_0 rfl rfl (fr_pc (pc' := 1) rfl ?_)
  refine fr_gR cl_9 1 (by decide) rfl sw_272 dd_Tokens_isSign_1 (fun x1 => fr_pc (pc' := 4) rfl ?_)
  refine fp_aload_n (i := 0) (r := p0) dd_Tokens_isSign_4 rfl rfl (fr_pc (pc' := 5) rfl ?_)
  refine fr_gI cl_9 5 (by decide) rfl sw_276 dd_Tokens_isSign_5 (fun x2 => fr_pc (pc' := 8) rfl ?_)
  refine fr_aI0 dd_Tokens_isSign_8 (fun x3 => fr_pc (pc' := 9) rfl ?_)
  refine fp_iconst (v := (3 : Int32)) dd_Tokens_isSign_9 (by decide) (fr_pc (pc' := 10) rfl ?_)
  refine fr_icmp_ne (tgt := 35) dd_Tokens_isSign_10 rfl (fun _ => ?_) (fun _ => ?_)
  · refine fr_pc (pc' := 13) rfl ?_
    refine fp_aload_n (i := 0) (r := p0) dd_Tokens_isSign_13 rfl rfl (fr_pc (pc' := 14) rfl ?_)
    refine fr_gR cl_9 0 (by decide) rfl sw_271 dd_Tokens_isSign_14 (fun x5 => fr_pc (pc' := 17) rfl ?_)
    refine fp_aload_n (i := 0) (r := p0) dd_Tokens_isSign_17 rfl rfl (fr_pc (pc' := 18) rfl ?_)
    refine fr_gR cl_9 2 (by decide) rfl sw_273 dd_Tokens_isSign_18 (fun x6 => fr_pc (pc' := 21) rfl ?_)
    refine fp_aload_n (i := 0) (r := p0) dd_Tokens_isSign_21 rfl rfl (fr_pc (pc' := 22) rfl ?_)
    refine fr_gI cl_9 5 (by decide) rfl sw_276 dd_Tokens_isSign_22 (fun x7 => fr_pc (pc' := 25) rfl ?_)
    refine fr_aI0 dd_Tokens_isSign_25 (fun x8 => fr_pc (pc' := 26) rfl ?_)
    refine fr_aI0 dd_Tokens_isSign_26 (fun x9 => fr_pc (pc' := 27) rfl ?_)
    refine fp_iload_n (i := 1) (x := p1) dd_Tokens_isSign_27 rfl rfl (fr_pc (pc' := 28) rfl ?_)
    refine fr_icmp_ne (tgt := 35) dd_Tokens_isSign_28 rfl (fun _ => ?_) (fun _ => ?_)
    · refine fr_pc (pc' := 31) rfl ?_
      refine fp_iconst (v := (1 : Int32)) dd_Tokens_isSign_31 (by decide) (fr_pc (pc' := 32) rfl ?_)
      refine fp_goto (tgt := 36) dd_Tokens_isSign_32 rfl ?_
      exact fr_zret0 (v := (1 : Int32)) (Or.inr rfl) rfl rfl dd_Tokens_isSign_36
    · refine fp_iconst (v := (0 : Int32)) dd_Tokens_isSign_35 (by decide) (fr_pc (pc' := 36) rfl ?_)
      exact fr_zret0 (v := (0 : Int32)) (Or.inl rfl) rfl rfl dd_Tokens_isSign_36
  · refine fp_iconst (v := (0 : Int32)) dd_Tokens_isSign_35 (by decide) (fr_pc (pc' := 36) rfl ?_)
    exact fr_zret0 (v := (0 : Int32)) (Or.inl rfl) rfl rfl dd_Tokens_isSign_36
theorem mt_Tokens_number : sf_Mt ({ cls := "SplitFares$Tokens", name := "number", desc := "()I" } : Jvm.MethodName) prog_10_method_9_code 3 (some .int) 0 := ⟨sw_633, sw_11, ⟨by decide, by decide, by decide +kernel⟩, by decide⟩
theorem dd_Tokens_number_0 : decode prog_10_method_9_code 0 = .ok (.aload_n 0, 1) := by decide +kernel
theorem dd_Tokens_number_1 : decode prog_10_method_9_code 1 = .ok (.getfield 15, 3) := by decide +kernel
theorem dd_Tokens_number_4 : decode prog_10_method_9_code 4 = .ok (.aload_n 0, 1) := by decide +kernel
theorem dd_Tokens_number_5 : decode prog_10_method_9_code 5 = .ok (.getfield 28, 3) := by decide +kernel
theorem dd_Tokens_number_8 : decode prog_10_method_9_code 8 = .ok (.iaload, 1) := by decide +kernel
theorem dd_Tokens_number_9 : decode prog_10_method_9_code 9 = .ok (.iconst 2, 1) := by decide +kernel
theorem dd_Tokens_number_10 : decode prog_10_method_9_code 10 = .ok (.if_icmp .eq 5, 3) := by decide +kernel
theorem dd_Tokens_number_13 : decode prog_10_method_9_code 13 = .ok (.iconst (-1), 1) := by decide +kernel
theorem dd_Tokens_number_14 : decode prog_10_method_9_code 14 = .ok (.ireturn, 1) := by decide +kernel
theorem dd_Tokens_number_15 : decode prog_10_method_9_code 15 = .ok (.iconst 0, 1) := by decide +kernel
theorem dd_Tokens_number_16 : decode prog_10_method_9_code 16 = .ok (.istore_n 1, 1) := by decide +kernel
theorem dd_Tokens_number_17 : decode prog_10_method_9_code 17 = .ok (.aload_n 0, 1) := by decide +kernel
theorem dd_Tokens_number_18 : decode prog_10_method_9_code 18 = .ok (.getfield 18, 3) := by decide +kernel
theorem dd_Tokens_number_21 : decode prog_10_method_9_code 21 = .ok (.aload_n 0, 1) := by decide +kernel
theorem dd_Tokens_number_22 : decode prog_10_method_9_code 22 = .ok (.getfield 28, 3) := by decide +kernel
theorem dd_Tokens_number_25 : decode prog_10_method_9_code 25 = .ok (.iaload, 1) := by decide +kernel
theorem dd_Tokens_number_26 : decode prog_10_method_9_code 26 = .ok (.istore_n 2, 1) := by decide +kernel
theorem dd_Tokens_number_27 : decode prog_10_method_9_code 27 = .ok (.iload_n 2, 1) := by decide +kernel
theorem dd_Tokens_number_28 : decode prog_10_method_9_code 28 = .ok (.aload_n 0, 1) := by decide +kernel
theorem dd_Tokens_number_29 : decode prog_10_method_9_code 29 = .ok (.getfield 21, 3) := by decide +kernel
theorem dd_Tokens_number_32 : decode prog_10_method_9_code 32 = .ok (.aload_n 0, 1) := by decide +kernel
theorem dd_Tokens_number_33 : decode prog_10_method_9_code 33 = .ok (.getfield 28, 3) := by decide +kernel
theorem dd_Tokens_number_36 : decode prog_10_method_9_code 36 = .ok (.iaload, 1) := by decide +kernel
theorem dd_Tokens_number_37 : decode prog_10_method_9_code 37 = .ok (.if_icmp .ge 29, 3) := by decide +kernel
theorem dd_Tokens_number_40 : decode prog_10_method_9_code 40 = .ok (.ldc 58, 2) := by decide +kernel
theorem dd_Tokens_number_42 : decode prog_10_method_9_code 42 = .ok (.iload_n 1, 1) := by decide +kernel
theorem dd_Tokens_number_43 : decode prog_10_method_9_code 43 = .ok (.bipush 10, 2) := by decide +kernel
theorem dd_Tokens_number_45 : decode prog_10_method_9_code 45 = .ok (.imul, 1) := by decide +kernel
theorem dd_Tokens_number_46 : decode prog_10_method_9_code 46 = .ok (.aload_n 0, 1) := by decide +kernel
theorem dd_Tokens_number_47 : decode prog_10_method_9_code 47 = .ok (.getfield 9, 3) := by decide +kernel
theorem dd_Tokens_number_50 : decode prog_10_method_9_code 50 = .ok (.iload_n 2, 1) := by decide +kernel
theorem dd_Tokens_number_51 : decode prog_10_method_9_code 51 = .ok (.iaload, 1) := by decide +kernel
theorem dd_Tokens_number_52 : decode prog_10_method_9_code 52 = .ok (.iadd, 1) := by decide +kernel
theorem dd_Tokens_number_53 : decode prog_10_method_9_code 53 = .ok (.bipush 48, 2) := by decide +kernel
theorem dd_Tokens_number_55 : decode prog_10_method_9_code 55 = .ok (.isub, 1) := by decide +kernel
theorem dd_Tokens_number_56 : decode prog_10_method_9_code 56 = .ok (.invokestatic 36, 3) := by decide +kernel
theorem dd_Tokens_number_59 : decode prog_10_method_9_code 59 = .ok (.istore_n 1, 1) := by decide +kernel
theorem dd_Tokens_number_60 : decode prog_10_method_9_code 60 = .ok (.iinc 2 1, 3) := by decide +kernel
theorem dd_Tokens_number_63 : decode prog_10_method_9_code 63 = .ok (.goto (-36), 3) := by decide +kernel
theorem dd_Tokens_number_66 : decode prog_10_method_9_code 66 = .ok (.iload_n 1, 1) := by decide +kernel
theorem dd_Tokens_number_67 : decode prog_10_method_9_code 67 = .ok (.ireturn, 1) := by decide +kernel
def jx_Tokens_number (p0 : Option Nat) : sf_M (Int32) :=
  sf_bnd (sf_gR 9 1 p0) fun x1 =>
  sf_bnd (sf_gI 9 5 p0) fun x2 =>
  sf_bnd (sf_aI 0 x1 x2) fun x3 =>
  if x3 = (2 : Int32) then (
  sf_bnd (sf_gR 9 2 p0) fun x5 =>
  sf_bnd (sf_gI 9 5 p0) fun x6 =>
  sf_bnd (sf_aI 0 x5 x6) fun x7 =>
  sf_bnd (sf_loop (β := (Int32 × Int32)) (γ := (Int32)) (fun b8 =>
  sf_bnd (sf_gR 9 3 p0) fun x9 =>
  sf_bnd (sf_gI 9 5 p0) fun x10 =>
  sf_bnd (sf_aI 0 x9 x10) fun x11 =>
  if x11 ≤ b8.2 then (
  sf_ret (.inr b8.1)
  ) else (
  sf_bnd (sf_gR 9 0 p0) fun x13 =>
  sf_bnd (sf_aI 0 x13 b8.2) fun x14 =>
  sf_bnd (jx_Math_min (1000000 : Int32) (((b8.1 * (10 : Int32)) + x14) - (48 : Int32))) fun x15 =>
  sf_bnd (sf_ret (b8.2 + (1 : Int32))) fun y16 =>
  sf_ret (.inl (x15, y16))
  )
  ) sf_fuel ((0 : Int32), x7)) (fun e17 =>
  sf_ret e17
  )
  ) else (
  sf_ret (-1 : Int32)
  )
set_option maxRecDepth 20000 in
set_option maxHeartbeats 4000000 in
theorem ok_Tokens_number (p0 : Option Nat) : sf_Ok ({ cls := "SplitFares$Tokens", name := "number", desc := "()I" } : Jvm.MethodName) prog_10_method_9_code 3 (some .int) 1 [sf_rv p0] (jx_Tokens_number p0) (fun r => some (.int r)) := by
  refine sf_Ok.of (env := [some (sf_rv p0), none, none]) (plainFor_of_name (by decide)) [false] (fun G => ⟨pk_r, trivial⟩) (Nat.le_of_ble_eq_true rfl) rfl (fun X => ?_)
  unfold jx_Tokens_number
  refine fp_aload_n (i := 0) (r := p0) dd_Tokens_number_0 rfl rfl (fr_pc (pc' := 1) rfl ?_)
  refine fr_gR cl_9 1 (by decide) rfl sw_272 dd_Tokens_number_1 (fun x1 => fr_pc (pc' := 4) rfl ?_)
  refine fp_aload_n (i := 0) (r := p0) dd_Tokens_number_4 rfl rfl (fr_pc (pc' := 5) rfl ?_)
  refine fr_gI cl_9 5 (by decide) rfl sw_276 dd_Tokens_number_5 (fun x2 => fr_pc (pc' := 8) rfl ?_)
  refine fr_aI0 dd_Tokens_number_8 (fun x3 => fr_pc (pc' := 9) rfl ?_)
  refine fp_iconst (v := (2 : Int32)) dd_Tokens_number_9 (by decide) (fr_pc (pc' := 10) rfl ?_)
  refine fr_icmp_eq (tgt := 15) dd_Tokens_number_10 rfl (fun _ => ?_) (fun _ => ?_)
  · refine fp_iconst (v := (0 : Int32)) dd_Tokens_number_15 (by decide) (fr_pc (pc' := 16) rfl ?_)
    refine fp_istore_n (i := 1) dd_Tokens_number_16 rfl (Nat.le_of_ble_eq_true rfl) (fun _ => c1_r rfl) (fr_to (pc' := 17) (env' := [some (sf_rv p0), some (.int (0 : Int32)), none]) (stk' := []) rfl rfl rfl ?_)
    refine fp_aload_n (i := 0) (r := p0) dd_Tokens_number_17 rfl rfl (fr_pc (pc' := 18) rfl ?_)
    refine fr_gR cl_9 2 (by decide) rfl sw_273 dd_Tokens_number_18 (fun x5 => fr_pc (pc' := 21) rfl ?_)
    refine fp_aload_n (i := 0) (r := p0) dd_Tokens_number_21 rfl rfl (fr_pc (pc' := 22) rfl ?_)
    refine fr_gI cl_9 5 (by decide) rfl sw_276 dd_Tokens_number_22 (fun x6 => fr_pc (pc' := 25) rfl ?_)
    refine fr_aI0 dd_Tokens_number_25 (fun x7 => fr_pc (pc' := 26) rfl ?_)
    refine fp_istore_n (i := 2) dd_Tokens_number_26 rfl (Nat.le_of_ble_eq_true rfl) (fun _ => c1_i rfl) (fr_to (pc' := 27) (env' := [some (sf_rv p0), some (.int (0 : Int32)), some (.int x7)]) (stk' := []) rfl rfl rfl ?_)
    refine fr_to (pc' := 27) (env' := [some (sf_rv p0), some (.int (0 : Int32)), some (.int x7)]) (stk' := []) rfl rfl rfl ?_
    refine fr_bnd (l1 := (fun (e17 : (Int32)) => sf_p 66 [some (sf_rv p0), some (.int e17), none] [])) (fr_loop (Lb := (fun (b8 : (Int32 × Int32)) => sf_p 27 [some (sf_rv p0), some (.int b8.1), some (.int b8.2)] [])) (fun b8 => ?_) _ _) (fun e17 => ?_)
    · refine fp_iload_n (i := 2) (x := b8.2) dd_Tokens_number_27 rfl rfl (fr_pc (pc' := 28) rfl ?_)
      refine fp_aload_n (i := 0) (r := p0) dd_Tokens_number_28 rfl rfl (fr_pc (pc' := 29) rfl ?_)
      refine fr_gR cl_9 3 (by decide) rfl sw_274 dd_Tokens_number_29 (fun x9 => fr_pc (pc' := 32) rfl ?_)
      refine fp_aload_n (i := 0) (r := p0) dd_Tokens_number_32 rfl rfl (fr_pc (pc' := 33) rfl ?_)
      refine fr_gI cl_9 5 (by decide) rfl sw_276 dd_Tokens_number_33 (fun x10 => fr_pc (pc' := 36) rfl ?_)
      refine fr_aI0 dd_Tokens_number_36 (fun x11 => fr_pc (pc' := 37) rfl ?_)
      refine fr_icmp_ge (tgt := 66) dd_Tokens_number_37 rfl (fun _ => ?_) (fun _ => ?_)
      · refine fr_wk [true, true, false] ?_
        exact fr_ret rfl
      · refine fr_pc (pc' := 40) rfl ?_
        refine fp_ldc (v := (1000000 : Int32)) dd_Tokens_number_40 sw_634 (fr_pc (pc' := 42) rfl ?_)
        refine fp_iload_n (i := 1) (x := b8.1) dd_Tokens_number_42 rfl rfl (fr_pc (pc' := 43) rfl ?_)
        refine fp_bipush (v := (10 : Int32)) dd_Tokens_number_43 (by decide) (fr_pc (pc' := 45) rfl ?_)
        refine fp_imul dd_Tokens_number_45 (fr_pc (pc' := 46) rfl ?_)
        refine fp_aload_n (i := 0) (r := p0) dd_Tokens_number_46 rfl rfl (fr_pc (pc' := 47) rfl ?_)
        refine fr_gR cl_9 0 (by decide) rfl sw_271 dd_Tokens_number_47 (fun x13 => fr_pc (pc' := 50) rfl ?_)
        refine fp_iload_n (i := 2) (x := b8.2) dd_Tokens_number_50 rfl rfl (fr_pc (pc' := 51) rfl ?_)
        refine fr_aI0 dd_Tokens_number_51 (fun x14 => fr_pc (pc' := 52) rfl ?_)
        refine fp_iadd dd_Tokens_number_52 (fr_pc (pc' := 53) rfl ?_)
        refine fp_bipush (v := (48 : Int32)) dd_Tokens_number_53 (by decide) (fr_pc (pc' := 55) rfl ?_)
        refine fp_isub dd_Tokens_number_55 (fr_pc (pc' := 56) rfl ?_)
        refine fr_callS (stk := []) (ok_Math_min (1000000 : Int32) (((b8.1 * (10 : Int32)) + x14) - (48 : Int32))) mt_Math_min rfl rfl sw_521 sw_423 (by decide) (Nat.le_of_ble_eq_true rfl) dd_Tokens_number_56 (fun x15 => fr_to (pc' := 59) (env' := [some (sf_rv p0), some (.int b8.1), some (.int b8.2)]) (stk' := [.int x15]) rfl rfl rfl ?_)
        refine fp_istore_n (i := 1) dd_Tokens_number_59 rfl (Nat.le_of_ble_eq_true rfl) (fun _ => c1_r rfl) (fr_to (pc' := 60) (env' := [some (sf_rv p0), some (.int x15), some (.int b8.2)]) (stk' := []) rfl rfl rfl ?_)
        refine fr_niinc (i := 2) (x := b8.2) (w := (1 : Int32)) dd_Tokens_number_60 rfl (by decide) (Nat.le_of_ble_eq_true rfl) (fun _ => c1_i rfl) (fun y16 => fr_to (pc' := 63) (env' := [some (sf_rv p0), some (.int x15), some (.int y16)]) (stk' := []) rfl rfl rfl ?_)
        refine fp_goto (tgt := 27) dd_Tokens_number_63 rfl ?_
        exact fr_ret rfl
    · refine fp_iload_n (i := 1) (x := e17) dd_Tokens_number_66 rfl rfl (fr_pc (pc' := 67) rfl ?_)
      exact fr_iret (v := e17) rfl rfl dd_Tokens_number_67
  · refine fr_pc (pc' := 13) rfl ?_
    refine fp_iconst (v := (-1 : Int32)) dd_Tokens_number_13 (by decide) (fr_pc (pc' := 14) rfl ?_)
    exact fr_iret (v := (-1 : Int32)) rfl rfl dd_Tokens_number_14
theorem mt_Tokens_isEnd : sf_Mt ({ cls := "SplitFares$Tokens", name := "isEnd", desc := "()Z" } : Jvm.MethodName) prog_10_method_6_code 1 (some .boolean) 0 := ⟨sw_694, sw_11, ⟨by decide, by decide, by decide +kernel⟩, by decide⟩
theorem dd_Tokens_isEnd_0 : decode prog_10_method_6_code 0 = .ok (.aload_n 0, 1) := by decide +kernel
theorem dd_Tokens_isEnd_1 : decode prog_10_method_6_code 1 = .ok (.getfield 15, 3) := by decide +kernel
theorem dd_Tokens_isEnd_4 : decode prog_10_method_6_code 4 = .ok (.aload_n 0, 1) := by decide +kernel
theorem dd_Tokens_isEnd_5 : decode prog_10_method_6_code 5 = .ok (.getfield 28, 3) := by decide +kernel
theorem dd_Tokens_isEnd_8 : decode prog_10_method_6_code 8 = .ok (.iaload, 1) := by decide +kernel
theorem dd_Tokens_isEnd_9 : decode prog_10_method_6_code 9 = .ok (.ifCond .ne 7, 3) := by decide +kernel
theorem dd_Tokens_isEnd_12 : decode prog_10_method_6_code 12 = .ok (.iconst 1, 1) := by decide +kernel
theorem dd_Tokens_isEnd_13 : decode prog_10_method_6_code 13 = .ok (.goto 4, 3) := by decide +kernel
theorem dd_Tokens_isEnd_16 : decode prog_10_method_6_code 16 = .ok (.iconst 0, 1) := by decide +kernel
theorem dd_Tokens_isEnd_17 : decode prog_10_method_6_code 17 = .ok (.ireturn, 1) := by decide +kernel
def jx_Tokens_isEnd (p0 : Option Nat) : sf_M (Int32) :=
  sf_bnd (sf_gR 9 1 p0) fun x1 =>
  sf_bnd (sf_gI 9 5 p0) fun x2 =>
  sf_bnd (sf_aI 0 x1 x2) fun x3 =>
  if x3 = 0 then (
  sf_ret (1 : Int32)
  ) else (
  sf_ret (0 : Int32)
  )
set_option maxRecDepth 20000 in
set_option maxHeartbeats 4000000 in
theorem ok_Tokens_isEnd (p0 : Option Nat) : sf_Ok ({ cls := "SplitFares$Tokens", name := "isEnd", desc := "()Z" } : Jvm.MethodName) prog_10_method_6_code 1 (some .boolean) 0 [sf_rv p0] (jx_Tokens_isEnd p0) (fun r => some (.int r)) := by
  refine sf_Ok.of (env := [some (sf_rv p0)]) (plainFor_of_name (by decide)) [false] (fun G => ⟨pk_r, trivial⟩) (Nat.le_of_ble_eq_true rfl) rfl (fun X => ?_)
  unfold jx_Tokens_isEnd
  refine fp_aload_n (i := 0) (r := p0) dd_Tokens_isEnd_0 rfl rfl (fr_pc (pc' := 1) rfl ?_)
  refine fr_gR cl_9 1 (by decide) rfl sw_272 dd_Tokens_isEnd_1 (fun x1 => fr_pc (pc' := 4) rfl ?_)
  refine fp_aload_n (i := 0) (r := p0) dd_Tokens_isEnd_4 rfl rfl (fr_pc (pc' := 5) rfl ?_)
  refine fr_gI cl_9 5 (by decide) rfl sw_276 dd_Tokens_isEnd_5 (fun x2 => fr_pc (pc' := 8) rfl ?_)
  refine fr_aI0 dd_Tokens_isEnd_8 (fun x3 => fr_pc (pc' := 9) rfl ?_)
  refine fr_if_ne (tgt := 16) dd_Tokens_isEnd_9 rfl (fun _ => ?_) (fun _ => ?_)
  · refine fr_pc (pc' := 12) rfl ?_
    refine fp_iconst (v := (1 : Int32)) dd_Tokens_isEnd_12 (by decide) (fr_pc (pc' := 13) rfl ?_)
    refine fp_goto (tgt := 17) dd_Tokens_isEnd_13 rfl ?_
    exact fr_zret0 (v := (1 : Int32)) (Or.inr rfl) rfl rfl dd_Tokens_isEnd_17
  · refine fp_iconst (v := (0 : Int32)) dd_Tokens_isEnd_16 (by decide) (fr_pc (pc' := 17) rfl ?_)
    exact fr_zret0 (v := (0 : Int32)) (Or.inl rfl) rfl rfl dd_Tokens_isEnd_17
theorem mt_Tokens_start : sf_Mt ({ cls := "SplitFares$Tokens", name := "start", desc := "()I" } : Jvm.MethodName) prog_10_method_5_code 1 (some .int) 0 := ⟨sw_706, sw_11, ⟨by decide, by decide, by decide +kernel⟩, by decide⟩
theorem dd_Tokens_start_0 : decode prog_10_method_5_code 0 = .ok (.aload_n 0, 1) := by decide +kernel
theorem dd_Tokens_start_1 : decode prog_10_method_5_code 1 = .ok (.getfield 18, 3) := by decide +kernel
theorem dd_Tokens_start_4 : decode prog_10_method_5_code 4 = .ok (.aload_n 0, 1) := by decide +kernel
theorem dd_Tokens_start_5 : decode prog_10_method_5_code 5 = .ok (.getfield 28, 3) := by decide +kernel
theorem dd_Tokens_start_8 : decode prog_10_method_5_code 8 = .ok (.iaload, 1) := by decide +kernel
theorem dd_Tokens_start_9 : decode prog_10_method_5_code 9 = .ok (.ireturn, 1) := by decide +kernel
def jx_Tokens_start (p0 : Option Nat) : sf_M (Int32) :=
  sf_bnd (sf_gR 9 2 p0) fun x1 =>
  sf_bnd (sf_gI 9 5 p0) fun x2 =>
  sf_bnd (sf_aI 0 x1 x2) fun x3 =>
  sf_ret x3
set_option maxRecDepth 20000 in
set_option maxHeartbeats 4000000 in
theorem ok_Tokens_start (p0 : Option Nat) : sf_Ok ({ cls := "SplitFares$Tokens", name := "start", desc := "()I" } : Jvm.MethodName) prog_10_method_5_code 1 (some .int) 0 [sf_rv p0] (jx_Tokens_start p0) (fun r => some (.int r)) := by
  refine sf_Ok.of (env := [some (sf_rv p0)]) (plainFor_of_name (by decide)) [false] (fun G => ⟨pk_r, trivial⟩) (Nat.le_of_ble_eq_true rfl) rfl (fun X => ?_)
  unfold jx_Tokens_start
  refine fp_aload_n (i := 0) (r := p0) dd_Tokens_start_0 rfl rfl (fr_pc (pc' := 1) rfl ?_)
  refine fr_gR cl_9 2 (by decide) rfl sw_273 dd_Tokens_start_1 (fun x1 => fr_pc (pc' := 4) rfl ?_)
  refine fp_aload_n (i := 0) (r := p0) dd_Tokens_start_4 rfl rfl (fr_pc (pc' := 5) rfl ?_)
  refine fr_gI cl_9 5 (by decide) rfl sw_276 dd_Tokens_start_5 (fun x2 => fr_pc (pc' := 8) rfl ?_)
  refine fr_aI0 dd_Tokens_start_8 (fun x3 => fr_pc (pc' := 9) rfl ?_)
  exact fr_iret (v := x3) rfl rfl dd_Tokens_start_9
