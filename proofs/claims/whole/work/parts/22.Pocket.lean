/-! Pocket: its methods as plain functions, and that the bytecode runs them (printed by program). -/
theorem mt_Pocket_init : sf_Mt ({ cls := "SplitFares$Pocket", name := "<init>", desc := "()V" } : Jvm.MethodName) prog_6_method_1_code 1 none 0 := ⟨sw_45, sw_4, ⟨by decide, by decide, by decide +kernel⟩, by decide⟩
theorem dd_Pocket_init_0 : decode prog_6_method_1_code 0 = .ok (.aload_n 0, 1) := by decide +kernel
theorem dd_Pocket_init_1 : decode prog_6_method_1_code 1 = .ok (.invokespecial 3, 3) := by decide +kernel
theorem dd_Pocket_init_4 : decode prog_6_method_1_code 4 = .ok (.aload_n 0, 1) := by decide +kernel
theorem dd_Pocket_init_5 : decode prog_6_method_1_code 5 = .ok (.sipush 192, 3) := by decide +kernel
theorem dd_Pocket_init_8 : decode prog_6_method_1_code 8 = .ok (.newarray .int, 2) := by decide +kernel
theorem dd_Pocket_init_10 : decode prog_6_method_1_code 10 = .ok (.putfield 9, 3) := by decide +kernel
theorem dd_Pocket_init_13 : decode prog_6_method_1_code 13 = .ok (.aload_n 0, 1) := by decide +kernel
theorem dd_Pocket_init_14 : decode prog_6_method_1_code 14 = .ok (.sipush 1000, 3) := by decide +kernel
theorem dd_Pocket_init_17 : decode prog_6_method_1_code 17 = .ok (.putfield 15, 3) := by decide +kernel
theorem dd_Pocket_init_20 : decode prog_6_method_1_code 20 = .ok (.aload_n 0, 1) := by decide +kernel
theorem dd_Pocket_init_21 : decode prog_6_method_1_code 21 = .ok (.iconst 0, 1) := by decide +kernel
theorem dd_Pocket_init_22 : decode prog_6_method_1_code 22 = .ok (.putfield 19, 3) := by decide +kernel
theorem dd_Pocket_init_25 : decode prog_6_method_1_code 25 = .ok (.aload_n 0, 1) := by decide +kernel
theorem dd_Pocket_init_26 : decode prog_6_method_1_code 26 = .ok (.iconst 0, 1) := by decide +kernel
theorem dd_Pocket_init_27 : decode prog_6_method_1_code 27 = .ok (.putfield 22, 3) := by decide +kernel
theorem dd_Pocket_init_30 : decode prog_6_method_1_code 30 = .ok (.return_, 1) := by decide +kernel
def jx_Pocket_init (p0 : Option Nat) : sf_M (Unit) :=
  sf_bnd (sf_rc 5 p0 (sf_ret ())) fun _ =>
  sf_bnd (sf_newA 0 (192 : Int32)) fun x1 =>
  sf_bnd (sf_pR 5 0 p0 x1) fun _ =>
  sf_bnd (sf_pI 5 1 p0 (1000 : Int32)) fun _ =>
  sf_bnd (sf_pI 5 2 p0 (0 : Int32)) fun _ =>
  sf_bnd (sf_pI 5 3 p0 (0 : Int32)) fun _ =>
  sf_ret ()
set_option maxRecDepth 20000 in
set_option maxHeartbeats 4000000 in
theorem ok_Pocket_init (p0 : Option Nat) : sf_Ok ({ cls := "SplitFares$Pocket", name := "<init>", desc := "()V" } : Jvm.MethodName) prog_6_method_1_code 1 none 1 [sf_rv p0] (jx_Pocket_init p0) (fun _ => none) := by
  refine sf_Ok.of (env := [some (sf_rv p0)]) (plainFor_of_name (by decide)) [false] (fun G => ⟨pk_r, trivial⟩) (Nat.le_of_ble_eq_true rfl) rfl (fun X => ?_)
  unfold jx_Pocket_init
  refine fp_aload_n (i := 0) (r := p0) dd_Pocket_init_0 rfl rfl (fr_pc (pc' := 1) rfl ?_)
  refine fr_obj (ci := 5) (by decide) sw_46 sw_27 sw_28 (Nat.le_of_ble_eq_true rfl) (Nat.le_of_ble_eq_true rfl) dd_Pocket_init_1 (fr_pc (pc' := 4) rfl ?_)
  refine fp_aload_n (i := 0) (r := p0) dd_Pocket_init_4 rfl rfl (fr_pc (pc' := 5) rfl ?_)
  refine fp_sipush (v := (192 : Int32)) dd_Pocket_init_5 (by decide) (fr_pc (pc' := 8) rfl ?_)
  refine fr_newI dd_Pocket_init_8 (fun x1 => fr_pc (pc' := 10) rfl ?_)
  refine fr_pRg cl_5 0 (by decide) rfl sw_47 (Or.inr ⟨rfl, rfl, rfl⟩) (Or.inr ⟨_, rfl⟩) dd_Pocket_init_10 (fr_pc (pc' := 13) rfl ?_)
  refine fp_aload_n (i := 0) (r := p0) dd_Pocket_init_13 rfl rfl (fr_pc (pc' := 14) rfl ?_)
  refine fp_sipush (v := (1000 : Int32)) dd_Pocket_init_14 (by decide) (fr_pc (pc' := 17) rfl ?_)
  refine fr_pI cl_5 1 (by decide) rfl sw_48 rfl ⟨rfl, rfl⟩ dd_Pocket_init_17 (fr_pc (pc' := 20) rfl ?_)
  refine fp_aload_n (i := 0) (r := p0) dd_Pocket_init_20 rfl rfl (fr_pc (pc' := 21) rfl ?_)
  refine fp_iconst (v := (0 : Int32)) dd_Pocket_init_21 (by decide) (fr_pc (pc' := 22) rfl ?_)
  refine fr_pI cl_5 2 (by decide) rfl sw_51 rfl ⟨rfl, rfl⟩ dd_Pocket_init_22 (fr_pc (pc' := 25) rfl ?_)
  refine fp_aload_n (i := 0) (r := p0) dd_Pocket_init_25 rfl rfl (fr_pc (pc' := 26) rfl ?_)
  refine fp_iconst (v := (0 : Int32)) dd_Pocket_init_26 (by decide) (fr_pc (pc' := 27) rfl ?_)
  refine fr_pI cl_5 3 (by decide) rfl sw_54 rfl ⟨rfl, rfl⟩ dd_Pocket_init_27 (fr_pc (pc' := 30) rfl ?_)
  exact fr_vret rfl rfl dd_Pocket_init_30
theorem mt_Pocket_heldOf : sf_Mt ({ cls := "SplitFares$Pocket", name := "heldOf", desc := "(III)I" } : Jvm.MethodName) prog_6_method_3_code 5 (some .int) 3 := ⟨sw_475, sw_4, ⟨by decide, by decide, by decide +kernel⟩, by decide⟩
theorem dd_Pocket_heldOf_0 : decode prog_6_method_3_code 0 = .ok (.iload_n 1, 1) := by decide +kernel
theorem dd_Pocket_heldOf_1 : decode prog_6_method_3_code 1 = .ok (.bipush 64, 2) := by decide +kernel
theorem dd_Pocket_heldOf_3 : decode prog_6_method_3_code 3 = .ok (.imul, 1) := by decide +kernel
theorem dd_Pocket_heldOf_4 : decode prog_6_method_3_code 4 = .ok (.iload_n 2, 1) := by decide +kernel
theorem dd_Pocket_heldOf_5 : decode prog_6_method_3_code 5 = .ok (.bipush 8, 2) := by decide +kernel
theorem dd_Pocket_heldOf_7 : decode prog_6_method_3_code 7 = .ok (.imul, 1) := by decide +kernel
theorem dd_Pocket_heldOf_8 : decode prog_6_method_3_code 8 = .ok (.iadd, 1) := by decide +kernel
theorem dd_Pocket_heldOf_9 : decode prog_6_method_3_code 9 = .ok (.iload_n 3, 1) := by decide +kernel
theorem dd_Pocket_heldOf_10 : decode prog_6_method_3_code 10 = .ok (.iadd, 1) := by decide +kernel
theorem dd_Pocket_heldOf_11 : decode prog_6_method_3_code 11 = .ok (.istore 4, 2) := by decide +kernel
theorem dd_Pocket_heldOf_13 : decode prog_6_method_3_code 13 = .ok (.iload 4, 2) := by decide +kernel
theorem dd_Pocket_heldOf_15 : decode prog_6_method_3_code 15 = .ok (.ifCond .lt 23, 3) := by decide +kernel
theorem dd_Pocket_heldOf_18 : decode prog_6_method_3_code 18 = .ok (.iload 4, 2) := by decide +kernel
theorem dd_Pocket_heldOf_20 : decode prog_6_method_3_code 20 = .ok (.aload_n 0, 1) := by decide +kernel
theorem dd_Pocket_heldOf_21 : decode prog_6_method_3_code 21 = .ok (.getfield 9, 3) := by decide +kernel
theorem dd_Pocket_heldOf_24 : decode prog_6_method_3_code 24 = .ok (.arraylength, 1) := by decide +kernel
theorem dd_Pocket_heldOf_25 : decode prog_6_method_3_code 25 = .ok (.if_icmp .ge 13, 3) := by decide +kernel
theorem dd_Pocket_heldOf_28 : decode prog_6_method_3_code 28 = .ok (.aload_n 0, 1) := by decide +kernel
theorem dd_Pocket_heldOf_29 : decode prog_6_method_3_code 29 = .ok (.getfield 9, 3) := by decide +kernel
theorem dd_Pocket_heldOf_32 : decode prog_6_method_3_code 32 = .ok (.iload 4, 2) := by decide +kernel
theorem dd_Pocket_heldOf_34 : decode prog_6_method_3_code 34 = .ok (.iaload, 1) := by decide +kernel
theorem dd_Pocket_heldOf_35 : decode prog_6_method_3_code 35 = .ok (.goto 4, 3) := by decide +kernel
theorem dd_Pocket_heldOf_38 : decode prog_6_method_3_code 38 = .ok (.iconst 0, 1) := by decide +kernel
theorem dd_Pocket_heldOf_39 : decode prog_6_method_3_code 39 = .ok (.ireturn, 1) := by decide +kernel
def jx_Pocket_heldOf (p0 : Option Nat) (p1 : Int32) (p2 : Int32) (p3 : Int32) : sf_M (Int32) :=
  sf_bnd (sf_ret ((((p1 * (64 : Int32)) + (p2 * (8 : Int32))) + p3))) fun y1 =>
  if y1 < 0 then (
  sf_ret (0 : Int32)
  ) else (
  sf_bnd (sf_gR 5 0 p0) fun x3 =>
  sf_bnd (sf_len x3) fun x4 =>
  if x4 ≤ y1 then (
  sf_ret (0 : Int32)
  ) else (
  sf_bnd (sf_gR 5 0 p0) fun x6 =>
  sf_bnd (sf_aI 0 x6 y1) fun x7 =>
  sf_ret x7
  )
  )
set_option maxRecDepth 20000 in
set_option maxHeartbeats 4000000 in
theorem ok_Pocket_heldOf (p0 : Option Nat) (p1 : Int32) (p2 : Int32) (p3 : Int32) : sf_Ok ({ cls := "SplitFares$Pocket", name := "heldOf", desc := "(III)I" } : Jvm.MethodName) prog_6_method_3_code 5 (some .int) 0 [sf_rv p0, .int p1, .int p2, .int p3] (jx_Pocket_heldOf p0 p1 p2 p3) (fun r => some (.int r)) := by
  refine sf_Ok.of (env := [some (sf_rv p0), some (.int p1), some (.int p2), some (.int p3), none]) (plainFor_of_name (by decide)) [false, false, false, false] (fun G => ⟨pk_r, pk_i, pk_i, pk_i, trivial⟩) (Nat.le_of_ble_eq_true rfl) rfl (fun X => ?_)
  unfold jx_Pocket_heldOf
  refine fp_iload_n (i := 1) (x := p1) dd_Pocket_heldOf_0 rfl rfl (fr_pc (pc' := 1) rfl ?_)
  refine fp_bipush (v := (64 : Int32)) dd_Pocket_heldOf_1 (by decide) (fr_pc (pc' := 3) rfl ?_)
  refine fp_imul dd_Pocket_heldOf_3 (fr_pc (pc' := 4) rfl ?_)
  refine fp_iload_n (i := 2) (x := p2) dd_Pocket_heldOf_4 rfl rfl (fr_pc (pc' := 5) rfl ?_)
  refine fp_bipush (v := (8 : Int32)) dd_Pocket_heldOf_5 (by decide) (fr_pc (pc' := 7) rfl ?_)
  refine fp_imul dd_Pocket_heldOf_7 (fr_pc (pc' := 8) rfl ?_)
  refine fp_iadd dd_Pocket_heldOf_8 (fr_pc (pc' := 9) rfl ?_)
  refine fp_iload_n (i := 3) (x := p3) dd_Pocket_heldOf_9 rfl rfl (fr_pc (pc' := 10) rfl ?_)
  refine fp_iadd dd_Pocket_heldOf_10 (fr_pc (pc' := 11) rfl ?_)
  refine fr_nistore (i := 4) dd_Pocket_heldOf_11 (Nat.le_of_ble_eq_true rfl) (fun _ => c1_i rfl) (fun y1 => fr_to (pc' := 13) (env' := [some (sf_rv p0), some (.int p1), some (.int p2), some (.int p3), some (.int y1)]) (stk' := []) rfl rfl rfl ?_)
  refine fp_iload (i := 4) (x := y1) dd_Pocket_heldOf_13 rfl (fr_pc (pc' := 15) rfl ?_)
  refine fr_if_lt (tgt := 38) dd_Pocket_heldOf_15 rfl (fun _ => ?_) (fun _ => ?_)
  · refine fp_iconst (v := (0 : Int32)) dd_Pocket_heldOf_38 (by decide) (fr_pc (pc' := 39) rfl ?_)
    exact fr_iret (v := (0 : Int32)) rfl rfl dd_Pocket_heldOf_39
  · refine fr_pc (pc' := 18) rfl ?_
    refine fp_iload (i := 4) (x := y1) dd_Pocket_heldOf_18 rfl (fr_pc (pc' := 20) rfl ?_)
    refine fp_aload_n (i := 0) (r := p0) dd_Pocket_heldOf_20 rfl rfl (fr_pc (pc' := 21) rfl ?_)
    refine fr_gR cl_5 0 (by decide) rfl sw_47 dd_Pocket_heldOf_21 (fun x3 => fr_pc (pc' := 24) rfl ?_)
    refine fr_len dd_Pocket_heldOf_24 (fun x4 => fr_pc (pc' := 25) rfl ?_)
    refine fr_icmp_ge (tgt := 38) dd_Pocket_heldOf_25 rfl (fun _ => ?_) (fun _ => ?_)
    · refine fp_iconst (v := (0 : Int32)) dd_Pocket_heldOf_38 (by decide) (fr_pc (pc' := 39) rfl ?_)
      exact fr_iret (v := (0 : Int32)) rfl rfl dd_Pocket_heldOf_39
    · refine fr_pc (pc' := 28) rfl ?_
      refine fp_aload_n (i := 0) (r := p0) dd_Pocket_heldOf_28 rfl rfl (fr_pc (pc' := 29) rfl ?_)
      refine fr_gR cl_5 0 (by decide) rfl sw_47 dd_Pocket_heldOf_29 (fun x6 => fr_pc (pc' := 32) rfl ?_)
      refine fp_iload (i := 4) (x := y1) dd_Pocket_heldOf_32 rfl (fr_pc (pc' := 34) rfl ?_)
      refine fr_aI0 dd_Pocket_heldOf_34 (fun x7 => fr_pc (pc' := 35) rfl ?_)
      refine fp_goto (tgt := 39) dd_Pocket_heldOf_35 rfl ?_
      exact fr_iret (v := x7) rfl rfl dd_Pocket_heldOf_39
theorem mt_Pocket_copyFrom : sf_Mt ({ cls := "SplitFares$Pocket", name := "copyFrom", desc := "(LSplitFares$Pocket;)V" } : Jvm.MethodName) prog_6_method_2_code 2 none 1 := ⟨sw_749, sw_4, ⟨by decide, by decide, by decide +kernel⟩, by decide⟩
theorem dd_Pocket_copyFrom_0 : decode prog_6_method_2_code 0 = .ok (.aload_n 1, 1) := by decide +kernel
theorem dd_Pocket_copyFrom_1 : decode prog_6_method_2_code 1 = .ok (.getfield 9, 3) := by decide +kernel
theorem dd_Pocket_copyFrom_4 : decode prog_6_method_2_code 4 = .ok (.iconst 0, 1) := by decide +kernel
theorem dd_Pocket_copyFrom_5 : decode prog_6_method_2_code 5 = .ok (.aload_n 0, 1) := by decide +kernel
theorem dd_Pocket_copyFrom_6 : decode prog_6_method_2_code 6 = .ok (.getfield 9, 3) := by decide +kernel
theorem dd_Pocket_copyFrom_9 : decode prog_6_method_2_code 9 = .ok (.iconst 0, 1) := by decide +kernel
theorem dd_Pocket_copyFrom_10 : decode prog_6_method_2_code 10 = .ok (.aload_n 0, 1) := by decide +kernel
theorem dd_Pocket_copyFrom_11 : decode prog_6_method_2_code 11 = .ok (.getfield 9, 3) := by decide +kernel
theorem dd_Pocket_copyFrom_14 : decode prog_6_method_2_code 14 = .ok (.arraylength, 1) := by decide +kernel
theorem dd_Pocket_copyFrom_15 : decode prog_6_method_2_code 15 = .ok (.invokestatic 25, 3) := by decide +kernel
theorem dd_Pocket_copyFrom_18 : decode prog_6_method_2_code 18 = .ok (.aload_n 0, 1) := by decide +kernel
theorem dd_Pocket_copyFrom_19 : decode prog_6_method_2_code 19 = .ok (.aload_n 1, 1) := by decide +kernel
theorem dd_Pocket_copyFrom_20 : decode prog_6_method_2_code 20 = .ok (.getfield 15, 3) := by decide +kernel
theorem dd_Pocket_copyFrom_23 : decode prog_6_method_2_code 23 = .ok (.putfield 15, 3) := by decide +kernel
theorem dd_Pocket_copyFrom_26 : decode prog_6_method_2_code 26 = .ok (.aload_n 0, 1) := by decide +kernel
theorem dd_Pocket_copyFrom_27 : decode prog_6_method_2_code 27 = .ok (.aload_n 1, 1) := by decide +kernel
theorem dd_Pocket_copyFrom_28 : decode prog_6_method_2_code 28 = .ok (.getfield 19, 3) := by decide +kernel
theorem dd_Pocket_copyFrom_31 : decode prog_6_method_2_code 31 = .ok (.putfield 19, 3) := by decide +kernel
theorem dd_Pocket_copyFrom_34 : decode prog_6_method_2_code 34 = .ok (.aload_n 0, 1) := by decide +kernel
theorem dd_Pocket_copyFrom_35 : decode prog_6_method_2_code 35 = .ok (.aload_n 1, 1) := by decide +kernel
theorem dd_Pocket_copyFrom_36 : decode prog_6_method_2_code 36 = .ok (.getfield 22, 3) := by decide +kernel
theorem dd_Pocket_copyFrom_39 : decode prog_6_method_2_code 39 = .ok (.putfield 22, 3) := by decide +kernel
theorem dd_Pocket_copyFrom_42 : decode prog_6_method_2_code 42 = .ok (.return_, 1) := by decide +kernel
def jx_Pocket_copyFrom (p0 : Option Nat) (p1 : Option Nat) : sf_M (Unit) :=
  sf_bnd (sf_gR 5 0 p1) fun x1 =>
  sf_bnd (sf_gR 5 0 p0) fun x2 =>
  sf_bnd (sf_gR 5 0 p0) fun x3 =>
  sf_bnd (sf_len x3) fun x4 =>
  sf_bnd (sf_cpI x1 (0 : Int32) x2 (0 : Int32) x4) fun _ =>
  sf_bnd (sf_gI 5 1 p1) fun x5 =>
  sf_bnd (sf_pI 5 1 p0 x5) fun _ =>
  sf_bnd (sf_gI 5 2 p1) fun x6 =>
  sf_bnd (sf_pI 5 2 p0 x6) fun _ =>
  sf_bnd (sf_gI 5 3 p1) fun x7 =>
  sf_bnd (sf_pI 5 3 p0 x7) fun _ =>
  sf_ret ()
set_option maxRecDepth 20000 in
set_option maxHeartbeats 4000000 in
theorem ok_Pocket_copyFrom (p0 : Option Nat) (p1 : Option Nat) : sf_Ok ({ cls := "SplitFares$Pocket", name := "copyFrom", desc := "(LSplitFares$Pocket;)V" } : Jvm.MethodName) prog_6_method_2_code 2 none 1 [sf_rv p0, sf_rv p1] (jx_Pocket_copyFrom p0 p1) (fun _ => none) := by
  refine sf_Ok.of (env := [some (sf_rv p0), some (sf_rv p1)]) (plainFor_of_name (by decide)) [false, false] (fun G => ⟨pk_r, pk_r, trivial⟩) (Nat.le_of_ble_eq_true rfl) rfl (fun X => ?_)
  unfold jx_Pocket_copyFrom
  refine fp_aload_n (i := 1) (r := p1) dd_Pocket_copyFrom_0 rfl rfl (fr_pc (pc' := 1) rfl ?_)
  refine fr_gR cl_5 0 (by decide) rfl sw_47 dd_Pocket_copyFrom_1 (fun x1 => fr_pc (pc' := 4) rfl ?_)
  refine fp_iconst (v := (0 : Int32)) dd_Pocket_copyFrom_4 (by decide) (fr_pc (pc' := 5) rfl ?_)
  refine fp_aload_n (i := 0) (r := p0) dd_Pocket_copyFrom_5 rfl rfl (fr_pc (pc' := 6) rfl ?_)
  refine fr_gR cl_5 0 (by decide) rfl sw_47 dd_Pocket_copyFrom_6 (fun x2 => fr_pc (pc' := 9) rfl ?_)
  refine fp_iconst (v := (0 : Int32)) dd_Pocket_copyFrom_9 (by decide) (fr_pc (pc' := 10) rfl ?_)
  refine fp_aload_n (i := 0) (r := p0) dd_Pocket_copyFrom_10 rfl rfl (fr_pc (pc' := 11) rfl ?_)
  refine fr_gR cl_5 0 (by decide) rfl sw_47 dd_Pocket_copyFrom_11 (fun x3 => fr_pc (pc' := 14) rfl ?_)
  refine fr_len dd_Pocket_copyFrom_14 (fun x4 => fr_pc (pc' := 15) rfl ?_)
  refine fr_cpI sw_750 sw_732 sw_731 sw_19 (Nat.le_of_ble_eq_true rfl) (Nat.le_of_ble_eq_true rfl) dd_Pocket_copyFrom_15 (fr_pc (pc' := 18) rfl ?_)
  refine fp_aload_n (i := 0) (r := p0) dd_Pocket_copyFrom_18 rfl rfl (fr_pc (pc' := 19) rfl ?_)
  refine fp_aload_n (i := 1) (r := p1) dd_Pocket_copyFrom_19 rfl rfl (fr_pc (pc' := 20) rfl ?_)
  refine fr_gI cl_5 1 (by decide) rfl sw_48 dd_Pocket_copyFrom_20 (fun x5 => fr_pc (pc' := 23) rfl ?_)
  refine fr_pI cl_5 1 (by decide) rfl sw_48 rfl ⟨rfl, rfl⟩ dd_Pocket_copyFrom_23 (fr_pc (pc' := 26) rfl ?_)
  refine fp_aload_n (i := 0) (r := p0) dd_Pocket_copyFrom_26 rfl rfl (fr_pc (pc' := 27) rfl ?_)
  refine fp_aload_n (i := 1) (r := p1) dd_Pocket_copyFrom_27 rfl rfl (fr_pc (pc' := 28) rfl ?_)
  refine fr_gI cl_5 2 (by decide) rfl sw_51 dd_Pocket_copyFrom_28 (fun x6 => fr_pc (pc' := 31) rfl ?_)
  refine fr_pI cl_5 2 (by decide) rfl sw_51 rfl ⟨rfl, rfl⟩ dd_Pocket_copyFrom_31 (fr_pc (pc' := 34) rfl ?_)
  refine fp_aload_n (i := 0) (r := p0) dd_Pocket_copyFrom_34 rfl rfl (fr_pc (pc' := 35) rfl ?_)
  refine fp_aload_n (i := 1) (r := p1) dd_Pocket_copyFrom_35 rfl rfl (fr_pc (pc' := 36) rfl ?_)
  refine fr_gI cl_5 3 (by decide) rfl sw_54 dd_Pocket_copyFrom_36 (fun x7 => fr_pc (pc' := 39) rfl ?_)
  refine fr_pI cl_5 3 (by decide) rfl sw_54 rfl ⟨rfl, rfl⟩ dd_Pocket_copyFrom_39 (fr_pc (pc' := 42) rfl ?_)
  exact fr_vret rfl rfl dd_Pocket_copyFrom_42
theorem mt_Pocket_heldInAll : sf_Mt ({ cls := "SplitFares$Pocket", name := "heldInAll", desc := "()I" } : Jvm.MethodName) prog_6_method_5_code 6 (some .int) 0 := ⟨sw_768, sw_4, ⟨by decide, by decide, by decide +kernel⟩, by decide⟩
theorem dd_Pocket_heldInAll_0 : decode prog_6_method_5_code 0 = .ok (.iconst 0, 1) := by decide +kernel
theorem dd_Pocket_heldInAll_1 : decode prog_6_method_5_code 1 = .ok (.istore_n 1, 1) := by decide +kernel
theorem dd_Pocket_heldInAll_2 : decode prog_6_method_5_code 2 = .ok (.aload_n 0, 1) := by decide +kernel
theorem dd_Pocket_heldInAll_3 : decode prog_6_method_5_code 3 = .ok (.getfield 9, 3) := by decide +kernel
theorem dd_Pocket_heldInAll_6 : decode prog_6_method_5_code 6 = .ok (.astore_n 2, 1) := by decide +kernel
theorem dd_Pocket_heldInAll_7 : decode prog_6_method_5_code 7 = .ok (.aload_n 2, 1) := by decide +kernel
theorem dd_Pocket_heldInAll_8 : decode prog_6_method_5_code 8 = .ok (.arraylength, 1) := by decide +kernel
theorem dd_Pocket_heldInAll_9 : decode prog_6_method_5_code 9 = .ok (.istore_n 3, 1) := by decide +kernel
theorem dd_Pocket_heldInAll_10 : decode prog_6_method_5_code 10 = .ok (.iconst 0, 1) := by decide +kernel
theorem dd_Pocket_heldInAll_11 : decode prog_6_method_5_code 11 = .ok (.istore 4, 2) := by decide +kernel
theorem dd_Pocket_heldInAll_13 : decode prog_6_method_5_code 13 = .ok (.iload 4, 2) := by decide +kernel
theorem dd_Pocket_heldInAll_15 : decode prog_6_method_5_code 15 = .ok (.iload_n 3, 1) := by decide +kernel
theorem dd_Pocket_heldInAll_16 : decode prog_6_method_5_code 16 = .ok (.if_icmp .ge 20, 3) := by decide +kernel
theorem dd_Pocket_heldInAll_19 : decode prog_6_method_5_code 19 = .ok (.aload_n 2, 1) := by decide +kernel
theorem dd_Pocket_heldInAll_20 : decode prog_6_method_5_code 20 = .ok (.iload 4, 2) := by decide +kernel
theorem dd_Pocket_heldInAll_22 : decode prog_6_method_5_code 22 = .ok (.iaload, 1) := by decide +kernel
theorem dd_Pocket_heldInAll_23 : decode prog_6_method_5_code 23 = .ok (.istore 5, 2) := by decide +kernel
theorem dd_Pocket_heldInAll_25 : decode prog_6_method_5_code 25 = .ok (.iload_n 1, 1) := by decide +kernel
theorem dd_Pocket_heldInAll_26 : decode prog_6_method_5_code 26 = .ok (.iload 5, 2) := by decide +kernel
theorem dd_Pocket_heldInAll_28 : decode prog_6_method_5_code 28 = .ok (.iadd, 1) := by decide +kernel
theorem dd_Pocket_heldInAll_29 : decode prog_6_method_5_code 29 = .ok (.istore_n 1, 1) := by decide +kernel
theorem dd_Pocket_heldInAll_30 : decode prog_6_method_5_code 30 = .ok (.iinc 4 1, 3) := by decide +kernel
theorem dd_Pocket_heldInAll_33 : decode prog_6_method_5_code 33 = .ok (.goto (-20), 3) := by decide +kernel
theorem dd_Pocket_heldInAll_36 : decode prog_6_method_5_code 36 = .ok (.iload_n 1, 1) := by decide +kernel
theorem dd_Pocket_heldInAll_37 : decode prog_6_method_5_code 37 = .ok (.ireturn, 1) := by decide +kernel
def jx_Pocket_heldInAll (p0 : Option Nat) : sf_M (Int32) :=
  sf_bnd (sf_gR 5 0 p0) fun x1 =>
  sf_bnd (sf_len x1) fun x2 =>
  sf_bnd (sf_loop (β := (Int32 × Int32)) (γ := (Int32)) (fun b3 =>
  if x2 ≤ b3.2 then (
  sf_ret (.inr b3.1)
  ) else (
  sf_bnd (sf_aI 0 x1 b3.2) fun x5 =>
  sf_bnd (sf_ret ((b3.1 + x5))) fun y6 =>
  sf_bnd (sf_ret (b3.2 + (1 : Int32))) fun y7 =>
  sf_ret (.inl (y6, y7))
  )
  ) sf_fuel ((0 : Int32), (0 : Int32))) (fun e8 =>
  sf_ret e8
  )
set_option maxRecDepth 20000 in
set_option maxHeartbeats 4000000 in
theorem ok_Pocket_heldInAll (p0 : Option Nat) : sf_Ok ({ cls := "SplitFares$Pocket", name := "heldInAll", desc := "()I" } : Jvm.MethodName) prog_6_method_5_code 6 (some .int) 0 [sf_rv p0] (jx_Pocket_heldInAll p0) (fun r => some (.int r)) := by
  refine sf_Ok.of (env := [some (sf_rv p0), none, none, none, none, none]) (plainFor_of_name (by decide)) [false] (fun G => ⟨pk_r, trivial⟩) (Nat.le_of_ble_eq_true rfl) rfl (fun X => ?_)
  unfold jx_Pocket_heldInAll
  refine fp_iconst (v := (0 : Int32)) dd_Pocket_heldInAll_0 (by decide) (fr_pc (pc' := 1) rfl ?_)
  refine fp_istore_n (i := 1) dd_Pocket_heldInAll_1 rfl (Nat.le_of_ble_eq_true rfl) (fun _ => c1_r rfl) (fr_to (pc' := 2) (env' := [some (sf_rv p0), some (.int (0 : Int32)), none, none, none, none]) (stk' := []) rfl rfl rfl ?_)
  refine fp_aload_n (i := 0) (r := p0) dd_Pocket_heldInAll_2 rfl rfl (fr_pc (pc' := 3) rfl ?_)
  refine fr_gR cl_5 0 (by decide) rfl sw_47 dd_Pocket_heldInAll_3 (fun x1 => fr_pc (pc' := 6) rfl ?_)
  refine fp_astore_n (i := 2) dd_Pocket_heldInAll_6 rfl (Nat.le_of_ble_eq_true rfl) (fun _ => c1_i rfl) (fr_to (pc' := 7) (env' := [some (sf_rv p0), some (.int (0 : Int32)), some (sf_rv x1), none, none, none]) (stk' := []) rfl rfl rfl ?_)
  refine fp_aload_n (i := 2) (r := x1) dd_Pocket_heldInAll_7 rfl rfl (fr_pc (pc' := 8) rfl ?_)
  refine fr_len dd_Pocket_heldInAll_8 (fun x2 => fr_pc (pc' := 9) rfl ?_)
  refine fp_istore_n (i := 3) dd_Pocket_heldInAll_9 rfl (Nat.le_of_ble_eq_true rfl) (fun _ => c1_r rfl) (fr_to (pc' := 10) (env' := [some (sf_rv p0), some (.int (0 : Int32)), some (sf_rv x1), some (.int x2), none, none]) (stk' := []) rfl rfl rfl ?_)
  refine fp_iconst (v := (0 : Int32)) dd_Pocket_heldInAll_10 (by decide) (fr_pc (pc' := 11) rfl ?_)
  refine fp_istore (i := 4) dd_Pocket_heldInAll_11 (Nat.le_of_ble_eq_true rfl) (fun _ => c1_i rfl) (fr_to (pc' := 13) (env' := [some (sf_rv p0), some (.int (0 : Int32)), some (sf_rv x1), some (.int x2), some (.int (0 : Int32)), none]) (stk' := []) rfl rfl rfl ?_)
  refine fr_to (pc' := 13) (env' := [some (sf_rv p0), some (.int (0 : Int32)), some (sf_rv x1), some (.int x2), some (.int (0 : Int32)), none]) (stk' := []) rfl rfl rfl ?_
  refine fr_bnd (l1 := (fun (e8 : (Int32)) => sf_p 36 [some (sf_rv p0), some (.int e8), some (sf_rv x1), some (.int x2), none, none] [])) (fr_loop (Lb := (fun (b3 : (Int32 × Int32)) => sf_p 13 [some (sf_rv p0), some (.int b3.1), some (sf_rv x1), some (.int x2), some (.int b3.2), none] [])) (fun b3 => ?_) _ _) (fun e8 => ?_)
  · refine fp_iload (i := 4) (x := b3.2) dd_Pocket_heldInAll_13 rfl (fr_pc (pc' := 15) rfl ?_)
    refine fp_iload_n (i := 3) (x := x2) dd_Pocket_heldInAll_15 rfl rfl (fr_pc (pc' := 16) rfl ?_)
    refine fr_icmp_ge (tgt := 36) dd_Pocket_heldInAll_16 rfl (fun _ => ?_) (fun _ => ?_)
    · refine fr_wk [true, true, true, true, false, false] ?_
      exact fr_ret rfl
    · refine fr_pc (pc' := 19) rfl ?_
      refine fp_aload_n (i := 2) (r := x1) dd_Pocket_heldInAll_19 rfl rfl (fr_pc (pc' := 20) rfl ?_)
      refine fp_iload (i := 4) (x := b3.2) dd_Pocket_heldInAll_20 rfl (fr_pc (pc' := 22) rfl ?_)
      refine fr_aI0 dd_Pocket_heldInAll_22 (fun x5 => fr_pc (pc' := 23) rfl ?_)
      refine fp_istore (i := 5) dd_Pocket_heldInAll_23 (Nat.le_of_ble_eq_true rfl) (fun _ => c1_i rfl) (fr_to (pc' := 25) (env' := [some (sf_rv p0), some (.int b3.1), some (sf_rv x1), some (.int x2), some (.int b3.2), some (.int x5)]) (stk' := []) rfl rfl rfl ?_)
      refine fp_iload_n (i := 1) (x := b3.1) dd_Pocket_heldInAll_25 rfl rfl (fr_pc (pc' := 26) rfl ?_)
      refine fp_iload (i := 5) (x := x5) dd_Pocket_heldInAll_26 rfl (fr_pc (pc' := 28) rfl ?_)
      refine fp_iadd dd_Pocket_heldInAll_28 (fr_pc (pc' := 29) rfl ?_)
      refine fr_nistore_n (i := 1) dd_Pocket_heldInAll_29 rfl (Nat.le_of_ble_eq_true rfl) (fun _ => c1_r rfl) (fun y6 => fr_to (pc' := 30) (env' := [some (sf_rv p0), some (.int y6), some (sf_rv x1), some (.int x2), some (.int b3.2), some (.int x5)]) (stk' := []) rfl rfl rfl ?_)
      refine fr_niinc (i := 4) (x := b3.2) (w := (1 : Int32)) dd_Pocket_heldInAll_30 rfl (by decide) (Nat.le_of_ble_eq_true rfl) (fun _ => c1_i rfl) (fun y7 => fr_to (pc' := 33) (env' := [some (sf_rv p0), some (.int y6), some (sf_rv x1), some (.int x2), some (.int y7), some (.int x5)]) (stk' := []) rfl rfl rfl ?_)
      refine fp_goto (tgt := 13) dd_Pocket_heldInAll_33 rfl ?_
      refine fr_wk [true, true, true, true, true, false] ?_
      exact fr_ret rfl
  · refine fp_iload_n (i := 1) (x := e8) dd_Pocket_heldInAll_36 rfl rfl (fr_pc (pc' := 37) rfl ?_)
    exact fr_iret (v := e8) rfl rfl dd_Pocket_heldInAll_37
theorem mt_Pocket_change : sf_Mt ({ cls := "SplitFares$Pocket", name := "change", desc := "(IIII)V" } : Jvm.MethodName) prog_6_method_4_code 6 none 4 := ⟨sw_790, sw_4, ⟨by decide, by decide, by decide +kernel⟩, by decide⟩
theorem dd_Pocket_change_0 : decode prog_6_method_4_code 0 = .ok (.iload_n 1, 1) := by decide +kernel
theorem dd_Pocket_change_1 : decode prog_6_method_4_code 1 = .ok (.bipush 64, 2) := by decide +kernel
theorem dd_Pocket_change_3 : decode prog_6_method_4_code 3 = .ok (.imul, 1) := by decide +kernel
theorem dd_Pocket_change_4 : decode prog_6_method_4_code 4 = .ok (.iload_n 2, 1) := by decide +kernel
theorem dd_Pocket_change_5 : decode prog_6_method_4_code 5 = .ok (.bipush 8, 2) := by decide +kernel
theorem dd_Pocket_change_7 : decode prog_6_method_4_code 7 = .ok (.imul, 1) := by decide +kernel
theorem dd_Pocket_change_8 : decode prog_6_method_4_code 8 = .ok (.iadd, 1) := by decide +kernel
theorem dd_Pocket_change_9 : decode prog_6_method_4_code 9 = .ok (.iload_n 3, 1) := by decide +kernel
theorem dd_Pocket_change_10 : decode prog_6_method_4_code 10 = .ok (.iadd, 1) := by decide +kernel
theorem dd_Pocket_change_11 : decode prog_6_method_4_code 11 = .ok (.istore 5, 2) := by decide +kernel
theorem dd_Pocket_change_13 : decode prog_6_method_4_code 13 = .ok (.iload 5, 2) := by decide +kernel
theorem dd_Pocket_change_15 : decode prog_6_method_4_code 15 = .ok (.ifCond .lt 39, 3) := by decide +kernel
theorem dd_Pocket_change_18 : decode prog_6_method_4_code 18 = .ok (.iload 5, 2) := by decide +kernel
theorem dd_Pocket_change_20 : decode prog_6_method_4_code 20 = .ok (.aload_n 0, 1) := by decide +kernel
theorem dd_Pocket_change_21 : decode prog_6_method_4_code 21 = .ok (.getfield 9, 3) := by decide +kernel
theorem dd_Pocket_change_24 : decode prog_6_method_4_code 24 = .ok (.arraylength, 1) := by decide +kernel
theorem dd_Pocket_change_25 : decode prog_6_method_4_code 25 = .ok (.if_icmp .ge 29, 3) := by decide +kernel
theorem dd_Pocket_change_28 : decode prog_6_method_4_code 28 = .ok (.aload_n 0, 1) := by decide +kernel
theorem dd_Pocket_change_29 : decode prog_6_method_4_code 29 = .ok (.getfield 9, 3) := by decide +kernel
theorem dd_Pocket_change_32 : decode prog_6_method_4_code 32 = .ok (.iload 5, 2) := by decide +kernel
theorem dd_Pocket_change_34 : decode prog_6_method_4_code 34 = .ok (.iconst 0, 1) := by decide +kernel
theorem dd_Pocket_change_35 : decode prog_6_method_4_code 35 = .ok (.bipush 9, 2) := by decide +kernel
theorem dd_Pocket_change_37 : decode prog_6_method_4_code 37 = .ok (.aload_n 0, 1) := by decide +kernel
theorem dd_Pocket_change_38 : decode prog_6_method_4_code 38 = .ok (.getfield 9, 3) := by decide +kernel
theorem dd_Pocket_change_41 : decode prog_6_method_4_code 41 = .ok (.iload 5, 2) := by decide +kernel
theorem dd_Pocket_change_43 : decode prog_6_method_4_code 43 = .ok (.iaload, 1) := by decide +kernel
theorem dd_Pocket_change_44 : decode prog_6_method_4_code 44 = .ok (.iload 4, 2) := by decide +kernel
theorem dd_Pocket_change_46 : decode prog_6_method_4_code 46 = .ok (.iadd, 1) := by decide +kernel
theorem dd_Pocket_change_47 : decode prog_6_method_4_code 47 = .ok (.invokestatic 31, 3) := by decide +kernel
theorem dd_Pocket_change_50 : decode prog_6_method_4_code 50 = .ok (.invokestatic 37, 3) := by decide +kernel
theorem dd_Pocket_change_53 : decode prog_6_method_4_code 53 = .ok (.iastore, 1) := by decide +kernel
theorem dd_Pocket_change_54 : decode prog_6_method_4_code 54 = .ok (.return_, 1) := by decide +kernel
def jx_Pocket_change (p0 : Option Nat) (p1 : Int32) (p2 : Int32) (p3 : Int32) (p4 : Int32) : sf_M (Unit) :=
  sf_bnd (sf_ret ((((p1 * (64 : Int32)) + (p2 * (8 : Int32))) + p3))) fun y1 =>
  if y1 < 0 then (
  sf_ret ()
  ) else (
  sf_bnd (sf_gR 5 0 p0) fun x3 =>
  sf_bnd (sf_len x3) fun x4 =>
  if x4 ≤ y1 then (
  sf_ret ()
  ) else (
  sf_bnd (sf_gR 5 0 p0) fun x6 =>
  sf_bnd (sf_gR 5 0 p0) fun x7 =>
  sf_bnd (sf_aI 0 x7 y1) fun x8 =>
  sf_bnd (jx_Math_min (9 : Int32) (x8 + p4)) fun x9 =>
  sf_bnd (jx_Math_max (0 : Int32) x9) fun x10 =>
  sf_bnd (sf_sI 0 x6 y1 x10) fun _ =>
  sf_ret ()
  )
  )
set_option maxRecDepth 20000 in
set_option maxHeartbeats 4000000 in
theorem ok_Pocket_change (p0 : Option Nat) (p1 : Int32) (p2 : Int32) (p3 : Int32) (p4 : Int32) : sf_Ok ({ cls := "SplitFares$Pocket", name := "change", desc := "(IIII)V" } : Jvm.MethodName) prog_6_method_4_code 6 none 1 [sf_rv p0, .int p1, .int p2, .int p3, .int p4] (jx_Pocket_change p0 p1 p2 p3 p4) (fun _ => none) := by
  refine sf_Ok.of (env := [some (sf_rv p0), some (.int p1), some (.int p2), some (.int p3), some (.int p4), none]) (plainFor_of_name (by decide)) [false, false, false, false, false] (fun G => ⟨pk_r, pk_i, pk_i, pk_i, pk_i, trivial⟩) (Nat.le_of_ble_eq_true rfl) rfl (fun X => ?_)
  unfold jx_Pocket_change
  refine fp_iload_n (i := 1) (x := p1) dd_Pocket_change_0 rfl rfl (fr_pc (pc' := 1) rfl ?_)
  refine fp_bipush (v := (64 : Int32)) dd_Pocket_change_1 (by decide) (fr_pc (pc' := 3) rfl ?_)
  refine fp_imul dd_Pocket_change_3 (fr_pc (pc' := 4) rfl ?_)
  refine fp_iload_n (i := 2) (x := p2) dd_Pocket_change_4 rfl rfl (fr_pc (pc' := 5) rfl ?_)
  refine fp_bipush (v := (8 : Int32)) dd_Pocket_change_5 (by decide) (fr_pc (pc' := 7) rfl ?_)
  refine fp_imul dd_Pocket_change_7 (fr_pc (pc' := 8) rfl ?_)
  refine fp_iadd dd_Pocket_change_8 (fr_pc (pc' := 9) rfl ?_)
  refine fp_iload_n (i := 3) (x := p3) dd_Pocket_change_9 rfl rfl (fr_pc (pc' := 10) rfl ?_)
  refine fp_iadd dd_Pocket_change_10 (fr_pc (pc' := 11) rfl ?_)
  refine fr_nistore (i := 5) dd_Pocket_change_11 (Nat.le_of_ble_eq_true rfl) (fun _ => c1_i rfl) (fun y1 => fr_to (pc' := 13) (env' := [some (sf_rv p0), some (.int p1), some (.int p2), some (.int p3), some (.int p4), some (.int y1)]) (stk' := []) rfl rfl rfl ?_)
  refine fp_iload (i := 5) (x := y1) dd_Pocket_change_13 rfl (fr_pc (pc' := 15) rfl ?_)
  refine fr_if_lt (tgt := 54) dd_Pocket_change_15 rfl (fun _ => ?_) (fun _ => ?_)
  · exact fr_vret rfl rfl dd_Pocket_change_54
  · refine fr_pc (pc' := 18) rfl ?_
    refine fp_iload (i := 5) (x := y1) dd_Pocket_change_18 rfl (fr_pc (pc' := 20) rfl ?_)
    refine fp_aload_n (i := 0) (r := p0) dd_Pocket_change_20 rfl rfl (fr_pc (pc' := 21) rfl ?_)
    refine fr_gR cl_5 0 (by decide) rfl sw_47 dd_Pocket_change_21 (fun x3 => fr_pc (pc' := 24) rfl ?_)
    refine fr_len dd_Pocket_change_24 (fun x4 => fr_pc (pc' := 25) rfl ?_)
    refine fr_icmp_ge (tgt := 54) dd_Pocket_change_25 rfl (fun _ => ?_) (fun _ => ?_)
    · exact fr_vret rfl rfl dd_Pocket_change_54
    · refine fr_pc (pc' := 28) rfl ?_
      refine fp_aload_n (i := 0) (r := p0) dd_Pocket_change_28 rfl rfl (fr_pc (pc' := 29) rfl ?_)
      refine fr_gR cl_5 0 (by decide) rfl sw_47 dd_Pocket_change_29 (fun x6 => fr_pc (pc' := 32) rfl ?_)
      refine fp_iload (i := 5) (x := y1) dd_Pocket_change_32 rfl (fr_pc (pc' := 34) rfl ?_)
      refine fp_iconst (v := (0 : Int32)) dd_Pocket_change_34 (by decide) (fr_pc (pc' := 35) rfl ?_)
      refine fp_bipush (v := (9 : Int32)) dd_Pocket_change_35 (by decide) (fr_pc (pc' := 37) rfl ?_)
      refine fp_aload_n (i := 0) (r := p0) dd_Pocket_change_37 rfl rfl (fr_pc (pc' := 38) rfl ?_)
      refine fr_gR cl_5 0 (by decide) rfl sw_47 dd_Pocket_change_38 (fun x7 => fr_pc (pc' := 41) rfl ?_)
      refine fp_iload (i := 5) (x := y1) dd_Pocket_change_41 rfl (fr_pc (pc' := 43) rfl ?_)
      refine fr_aI0 dd_Pocket_change_43 (fun x8 => fr_pc (pc' := 44) rfl ?_)
      refine fp_iload (i := 4) (x := p4) dd_Pocket_change_44 rfl (fr_pc (pc' := 46) rfl ?_)
      refine fp_iadd dd_Pocket_change_46 (fr_pc (pc' := 47) rfl ?_)
      refine fr_callS (stk := [.int (0 : Int32), .int y1, sf_rv x6]) (ok_Math_min (9 : Int32) (x8 + p4)) mt_Math_min rfl rfl sw_791 sw_432 (by decide) (Nat.le_of_ble_eq_true rfl) dd_Pocket_change_47 (fun x9 => fr_to (pc' := 50) (env' := [some (sf_rv p0), some (.int p1), some (.int p2), some (.int p3), some (.int p4), some (.int y1)]) (stk' := [.int x9, .int (0 : Int32), .int y1, sf_rv x6]) rfl rfl rfl ?_)
      refine fr_callS (stk := [.int y1, sf_rv x6]) (ok_Math_max (0 : Int32) x9) mt_Math_max rfl rfl sw_792 sw_448 (by decide) (Nat.le_of_ble_eq_true rfl) dd_Pocket_change_50 (fun x10 => fr_to (pc' := 53) (env' := [some (sf_rv p0), some (.int p1), some (.int p2), some (.int p3), some (.int p4), some (.int y1)]) (stk' := [.int x10, .int y1, sf_rv x6]) rfl rfl rfl ?_)
      refine fr_sI0 dd_Pocket_change_53 (fr_pc (pc' := 54) rfl ?_)
      exact fr_vret rfl rfl dd_Pocket_change_54
theorem mt_Pocket_dropHalves : sf_Mt ({ cls := "SplitFares$Pocket", name := "dropHalves", desc := "()I" } : Jvm.MethodName) prog_6_method_6_code 3 (some .int) 0 := ⟨sw_848, sw_4, ⟨by decide, by decide, by decide +kernel⟩, by decide⟩
theorem dd_Pocket_dropHalves_0 : decode prog_6_method_6_code 0 = .ok (.iconst 0, 1) := by decide +kernel
theorem dd_Pocket_dropHalves_1 : decode prog_6_method_6_code 1 = .ok (.istore_n 1, 1) := by decide +kernel
theorem dd_Pocket_dropHalves_2 : decode prog_6_method_6_code 2 = .ok (.sipush 128, 3) := by decide +kernel
theorem dd_Pocket_dropHalves_5 : decode prog_6_method_6_code 5 = .ok (.istore_n 2, 1) := by decide +kernel
theorem dd_Pocket_dropHalves_6 : decode prog_6_method_6_code 6 = .ok (.iload_n 2, 1) := by decide +kernel
theorem dd_Pocket_dropHalves_7 : decode prog_6_method_6_code 7 = .ok (.aload_n 0, 1) := by decide +kernel
theorem dd_Pocket_dropHalves_8 : decode prog_6_method_6_code 8 = .ok (.getfield 9, 3) := by decide +kernel
theorem dd_Pocket_dropHalves_11 : decode prog_6_method_6_code 11 = .ok (.arraylength, 1) := by decide +kernel
theorem dd_Pocket_dropHalves_12 : decode prog_6_method_6_code 12 = .ok (.if_icmp .ge 25, 3) := by decide +kernel
theorem dd_Pocket_dropHalves_15 : decode prog_6_method_6_code 15 = .ok (.iload_n 1, 1) := by decide +kernel
theorem dd_Pocket_dropHalves_16 : decode prog_6_method_6_code 16 = .ok (.aload_n 0, 1) := by decide +kernel
theorem dd_Pocket_dropHalves_17 : decode prog_6_method_6_code 17 = .ok (.getfield 9, 3) := by decide +kernel
theorem dd_Pocket_dropHalves_20 : decode prog_6_method_6_code 20 = .ok (.iload_n 2, 1) := by decide +kernel
theorem dd_Pocket_dropHalves_21 : decode prog_6_method_6_code 21 = .ok (.iaload, 1) := by decide +kernel
theorem dd_Pocket_dropHalves_22 : decode prog_6_method_6_code 22 = .ok (.iadd, 1) := by decide +kernel
theorem dd_Pocket_dropHalves_23 : decode prog_6_method_6_code 23 = .ok (.istore_n 1, 1) := by decide +kernel
theorem dd_Pocket_dropHalves_24 : decode prog_6_method_6_code 24 = .ok (.aload_n 0, 1) := by decide +kernel
theorem dd_Pocket_dropHalves_25 : decode prog_6_method_6_code 25 = .ok (.getfield 9, 3) := by decide +kernel
theorem dd_Pocket_dropHalves_28 : decode prog_6_method_6_code 28 = .ok (.iload_n 2, 1) := by decide +kernel
theorem dd_Pocket_dropHalves_29 : decode prog_6_method_6_code 29 = .ok (.iconst 0, 1) := by decide +kernel
theorem dd_Pocket_dropHalves_30 : decode prog_6_method_6_code 30 = .ok (.iastore, 1) := by decide +kernel
theorem dd_Pocket_dropHalves_31 : decode prog_6_method_6_code 31 = .ok (.iinc 2 1, 3) := by decide +kernel
theorem dd_Pocket_dropHalves_34 : decode prog_6_method_6_code 34 = .ok (.goto (-28), 3) := by decide +kernel
theorem dd_Pocket_dropHalves_37 : decode prog_6_method_6_code 37 = .ok (.iload_n 1, 1) := by decide +kernel
theorem dd_Pocket_dropHalves_38 : decode prog_6_method_6_code 38 = .ok (.ireturn, 1) := by decide +kernel
def jx_Pocket_dropHalves (p0 : Option Nat) : sf_M (Int32) :=
  sf_bnd (sf_loop (β := (Int32 × Int32)) (γ := (Int32)) (fun b1 =>
  sf_bnd (sf_gR 5 0 p0) fun x2 =>
  sf_bnd (sf_len x2) fun x3 =>
  if x3 ≤ b1.2 then (
  sf_ret (.inr b1.1)
  ) else (
  sf_bnd (sf_gR 5 0 p0) fun x5 =>
  sf_bnd (sf_aI 0 x5 b1.2) fun x6 =>
  sf_bnd (sf_ret ((b1.1 + x6))) fun y7 =>
  sf_bnd (sf_gR 5 0 p0) fun x8 =>
  sf_bnd (sf_sI 0 x8 b1.2 (0 : Int32)) fun _ =>
  sf_bnd (sf_ret (b1.2 + (1 : Int32))) fun y9 =>
  sf_ret (.inl (y7, y9))
  )
  ) sf_fuel ((0 : Int32), (128 : Int32))) (fun e10 =>
  sf_ret e10
  )
set_option maxRecDepth 20000 in
set_option maxHeartbeats 4000000 in
theorem ok_Pocket_dropHalves (p0 : Option Nat) : sf_Ok ({ cls := "SplitFares$Pocket", name := "dropHalves", desc := "()I" } : Jvm.MethodName) prog_6_method_6_code 3 (some .int) 0 [sf_rv p0] (jx_Pocket_dropHalves p0) (fun r => some (.int r)) := by
  refine sf_Ok.of (env := [some (sf_rv p0), none, none]) (plainFor_of_name (by decide)) [false] (fun G => ⟨pk_r, trivial⟩) (Nat.le_of_ble_eq_true rfl) rfl (fun X => ?_)
  unfold jx_Pocket_dropHalves
  refine fp_iconst (v := (0 : Int32)) dd_Pocket_dropHalves_0 (by decide) (fr_pc (pc' := 1) rfl ?_)
  refine fp_istore_n (i := 1) dd_Pocket_dropHalves_1 rfl (Nat.le_of_ble_eq_true rfl) (fun _ => c1_r rfl) (fr_to (pc' := 2) (env' := [some (sf_rv p0), some (.int (0 : Int32)), none]) (stk' := []) rfl rfl rfl ?_)
  refine fp_sipush (v := (128 : Int32)) dd_Pocket_dropHalves_2 (by decide) (fr_pc (pc' := 5) rfl ?_)
  refine fp_istore_n (i := 2) dd_Pocket_dropHalves_5 rfl (Nat.le_of_ble_eq_true rfl) (fun _ => c1_i rfl) (fr_to (pc' := 6) (env' := [some (sf_rv p0), some (.int (0 : Int32)), some (.int (128 : Int32))]) (stk' := []) rfl rfl rfl ?_)
  refine fr_to (pc' := 6) (env' := [some (sf_rv p0), some (.int (0 : Int32)), some (.int (128 : Int32))]) (stk' := []) rfl rfl rfl ?_
  refine fr_bnd (l1 := (fun (e10 : (Int32)) => sf_p 37 [some (sf_rv p0), some (.int e10), none] [])) (fr_loop (Lb := (fun (b1 : (Int32 × Int32)) => sf_p 6 [some (sf_rv p0), some (.int b1.1), some (.int b1.2)] [])) (fun b1 => ?_) _ _) (fun e10 => ?_)
  · refine fp_iload_n (i := 2) (x := b1.2) dd_Pocket_dropHalves_6 rfl rfl (fr_pc (pc' := 7) rfl ?_)
    refine fp_aload_n (i := 0) (r := p0) dd_Pocket_dropHalves_7 rfl rfl (fr_pc (pc' := 8) rfl ?_)
    refine fr_gR cl_5 0 (by decide) rfl sw_47 dd_Pocket_dropHalves_8 (fun x2 => fr_pc (pc' := 11) rfl ?_)
    refine fr_len dd_Pocket_dropHalves_11 (fun x3 => fr_pc (pc' := 12) rfl ?_)
    refine fr_icmp_ge (tgt := 37) dd_Pocket_dropHalves_12 rfl (fun _ => ?_) (fun _ => ?_)
    · refine fr_wk [true, true, false] ?_
      exact fr_ret rfl
    · refine fr_pc (pc' := 15) rfl ?_
      refine fp_iload_n (i := 1) (x := b1.1) dd_Pocket_dropHalves_15 rfl rfl (fr_pc (pc' := 16) rfl ?_)
      refine fp_aload_n (i := 0) (r := p0) dd_Pocket_dropHalves_16 rfl rfl (fr_pc (pc' := 17) rfl ?_)
      refine fr_gR cl_5 0 (by decide) rfl sw_47 dd_Pocket_dropHalves_17 (fun x5 => fr_pc (pc' := 20) rfl ?_)
      refine fp_iload_n (i := 2) (x := b1.2) dd_Pocket_dropHalves_20 rfl rfl (fr_pc (pc' := 21) rfl ?_)
      refine fr_aI0 dd_Pocket_dropHalves_21 (fun x6 => fr_pc (pc' := 22) rfl ?_)
      refine fp_iadd dd_Pocket_dropHalves_22 (fr_pc (pc' := 23) rfl ?_)
      refine fr_nistore_n (i := 1) dd_Pocket_dropHalves_23 rfl (Nat.le_of_ble_eq_true rfl) (fun _ => c1_r rfl) (fun y7 => fr_to (pc' := 24) (env' := [some (sf_rv p0), some (.int y7), some (.int b1.2)]) (stk' := []) rfl rfl rfl ?_)
      refine fp_aload_n (i := 0) (r := p0) dd_Pocket_dropHalves_24 rfl rfl (fr_pc (pc' := 25) rfl ?_)
      refine fr_gR cl_5 0 (by decide) rfl sw_47 dd_Pocket_dropHalves_25 (fun x8 => fr_pc (pc' := 28) rfl ?_)
      refine fp_iload_n (i := 2) (x := b1.2) dd_Pocket_dropHalves_28 rfl rfl (fr_pc (pc' := 29) rfl ?_)
      refine fp_iconst (v := (0 : Int32)) dd_Pocket_dropHalves_29 (by decide) (fr_pc (pc' := 30) rfl ?_)
      refine fr_sI0 dd_Pocket_dropHalves_30 (fr_pc (pc' := 31) rfl ?_)
      refine fr_niinc (i := 2) (x := b1.2) (w := (1 : Int32)) dd_Pocket_dropHalves_31 rfl (by decide) (Nat.le_of_ble_eq_true rfl) (fun _ => c1_i rfl) (fun y9 => fr_to (pc' := 34) (env' := [some (sf_rv p0), some (.int y7), some (.int y9)]) (stk' := []) rfl rfl rfl ?_)
      refine fp_goto (tgt := 6) dd_Pocket_dropHalves_34 rfl ?_
      exact fr_ret rfl
  · refine fp_iload_n (i := 1) (x := e10) dd_Pocket_dropHalves_37 rfl rfl (fr_pc (pc' := 38) rfl ?_)
    exact fr_iret (v := e10) rfl rfl dd_Pocket_dropHalves_38
