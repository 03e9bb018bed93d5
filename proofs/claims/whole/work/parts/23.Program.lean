/-! Program: its methods as plain functions, and that the bytecode runs them (printed by program). -/
theorem mt_Program_init : sf_Mt ({ cls := "SplitFares$Program", name := "<init>", desc := "()V" } : Jvm.MethodName) prog_7_method_1_code 1 none 0 := ⟨sw_245, sw_10, ⟨by decide, by decide, by decide +kernel⟩, by decide⟩
theorem dd_Program_init_0 : decode prog_7_method_1_code 0 = .ok (.aload_n 0, 1) := by decide +kernel
theorem dd_Program_init_1 : decode prog_7_method_1_code 1 = .ok (.invokespecial 3, 3) := by decide +kernel
theorem dd_Program_init_4 : decode prog_7_method_1_code 4 = .ok (.aload_n 0, 1) := by decide +kernel
theorem dd_Program_init_5 : decode prog_7_method_1_code 5 = .ok (.sipush 400, 3) := by decide +kernel
theorem dd_Program_init_8 : decode prog_7_method_1_code 8 = .ok (.newarray .int, 2) := by decide +kernel
theorem dd_Program_init_10 : decode prog_7_method_1_code 10 = .ok (.putfield 9, 3) := by decide +kernel
theorem dd_Program_init_13 : decode prog_7_method_1_code 13 = .ok (.aload_n 0, 1) := by decide +kernel
theorem dd_Program_init_14 : decode prog_7_method_1_code 14 = .ok (.sipush 400, 3) := by decide +kernel
theorem dd_Program_init_17 : decode prog_7_method_1_code 17 = .ok (.newarray .int, 2) := by decide +kernel
theorem dd_Program_init_19 : decode prog_7_method_1_code 19 = .ok (.putfield 15, 3) := by decide +kernel
theorem dd_Program_init_22 : decode prog_7_method_1_code 22 = .ok (.aload_n 0, 1) := by decide +kernel
theorem dd_Program_init_23 : decode prog_7_method_1_code 23 = .ok (.bipush 72, 2) := by decide +kernel
theorem dd_Program_init_25 : decode prog_7_method_1_code 25 = .ok (.newarray .int, 2) := by decide +kernel
theorem dd_Program_init_27 : decode prog_7_method_1_code 27 = .ok (.putfield 18, 3) := by decide +kernel
theorem dd_Program_init_30 : decode prog_7_method_1_code 30 = .ok (.aload_n 0, 1) := by decide +kernel
theorem dd_Program_init_31 : decode prog_7_method_1_code 31 = .ok (.iconst 0, 1) := by decide +kernel
theorem dd_Program_init_32 : decode prog_7_method_1_code 32 = .ok (.putfield 21, 3) := by decide +kernel
theorem dd_Program_init_35 : decode prog_7_method_1_code 35 = .ok (.aload_n 0, 1) := by decide +kernel
theorem dd_Program_init_36 : decode prog_7_method_1_code 36 = .ok (.iconst 0, 1) := by decide +kernel
theorem dd_Program_init_37 : decode prog_7_method_1_code 37 = .ok (.putfield 25, 3) := by decide +kernel
theorem dd_Program_init_40 : decode prog_7_method_1_code 40 = .ok (.return_, 1) := by decide +kernel
def jx_Program_init (p0 : Option Nat) : sf_M (Unit) :=
  sf_bnd (sf_rc 6 p0 (sf_ret ())) fun _ =>
  sf_bnd (sf_newA 0 (400 : Int32)) fun x1 =>
  sf_bnd (sf_pR 6 0 p0 x1) fun _ =>
  sf_bnd (sf_newA 0 (400 : Int32)) fun x2 =>
  sf_bnd (sf_pR 6 1 p0 x2) fun _ =>
  sf_bnd (sf_newA 0 (72 : Int32)) fun x3 =>
  sf_bnd (sf_pR 6 2 p0 x3) fun _ =>
  sf_bnd (sf_pI 6 3 p0 (0 : Int32)) fun _ =>
  sf_bnd (sf_pI 6 4 p0 (0 : Int32)) fun _ =>
  sf_ret ()
set_option maxRecDepth 20000 in
set_option maxHeartbeats 4000000 in
theorem ok_Program_init (p0 : Option Nat) : sf_Ok ({ cls := "SplitFares$Program", name := "<init>", desc := "()V" } : Jvm.MethodName) prog_7_method_1_code 1 none 1 [sf_rv p0] (jx_Program_init p0) (fun _ => none) := by
  refine sf_Ok.of (env := [some (sf_rv p0)]) (plainFor_of_name (by decide)) [false] (fun G => ⟨pk_r, trivial⟩) (Nat.le_of_ble_eq_true rfl) rfl (fun X => ?_)
  unfold jx_Program_init
  refine fp_aload_n (i := 0) (r := p0) dd_Program_init_0 rfl rfl (fr_pc (pc' := 1) rfl ?_)
  refine fr_obj (ci := 6) (by decide) sw_246 sw_27 sw_28 (Nat.le_of_ble_eq_true rfl) (Nat.le_of_ble_eq_true rfl) dd_Program_init_1 (fr_pc (pc' := 4) rfl ?_)
  refine fp_aload_n (i := 0) (r := p0) dd_Program_init_4 rfl rfl (fr_pc (pc' := 5) rfl ?_)
  refine fp_sipush (v := (400 : Int32)) dd_Program_init_5 (by decide) (fr_pc (pc' := 8) rfl ?_)
  refine fr_newI dd_Program_init_8 (fun x1 => fr_pc (pc' := 10) rfl ?_)
  refine fr_pRg cl_6 0 (by decide) rfl sw_247 (Or.inr ⟨rfl, rfl, rfl⟩) (Or.inr ⟨_, rfl⟩) dd_Program_init_10 (fr_pc (pc' := 13) rfl ?_)
  refine fp_aload_n (i := 0) (r := p0) dd_Program_init_13 rfl rfl (fr_pc (pc' := 14) rfl ?_)
  refine fp_sipush (v := (400 : Int32)) dd_Program_init_14 (by decide) (fr_pc (pc' := 17) rfl ?_)
  refine fr_newI dd_Program_init_17 (fun x2 => fr_pc (pc' := 19) rfl ?_)
  refine fr_pRg cl_6 1 (by decide) rfl sw_248 (Or.inr ⟨rfl, rfl, rfl⟩) (Or.inr ⟨_, rfl⟩) dd_Program_init_19 (fr_pc (pc' := 22) rfl ?_)
  refine fp_aload_n (i := 0) (r := p0) dd_Program_init_22 rfl rfl (fr_pc (pc' := 23) rfl ?_)
  refine fp_bipush (v := (72 : Int32)) dd_Program_init_23 (by decide) (fr_pc (pc' := 25) rfl ?_)
  refine fr_newI dd_Program_init_25 (fun x3 => fr_pc (pc' := 27) rfl ?_)
  refine fr_pRg cl_6 2 (by decide) rfl sw_249 (Or.inr ⟨rfl, rfl, rfl⟩) (Or.inr ⟨_, rfl⟩) dd_Program_init_27 (fr_pc (pc' := 30) rfl ?_)
  refine fp_aload_n (i := 0) (r := p0) dd_Program_init_30 rfl rfl (fr_pc (pc' := 31) rfl ?_)
  refine fp_iconst (v := (0 : Int32)) dd_Program_init_31 (by decide) (fr_pc (pc' := 32) rfl ?_)
  refine fr_pI cl_6 3 (by decide) rfl sw_250 rfl ⟨rfl, rfl⟩ dd_Program_init_32 (fr_pc (pc' := 35) rfl ?_)
  refine fp_aload_n (i := 0) (r := p0) dd_Program_init_35 rfl rfl (fr_pc (pc' := 36) rfl ?_)
  refine fp_iconst (v := (0 : Int32)) dd_Program_init_36 (by decide) (fr_pc (pc' := 37) rfl ?_)
  refine fr_pI cl_6 4 (by decide) rfl sw_251 rfl ⟨rfl, rfl⟩ dd_Program_init_37 (fr_pc (pc' := 40) rfl ?_)
  exact fr_vret rfl rfl dd_Program_init_40
theorem mt_Program_noted : sf_Mt ({ cls := "SplitFares$Program", name := "noted", desc := "(II)I" } : Jvm.MethodName) prog_7_method_8_code 4 (some .int) 2 := ⟨sw_425, sw_10, ⟨by decide, by decide, by decide +kernel⟩, by decide⟩
theorem dd_Program_noted_0 : decode prog_7_method_8_code 0 = .ok (.iload_n 1, 1) := by decide +kernel
theorem dd_Program_noted_1 : decode prog_7_method_8_code 1 = .ok (.bipush 6, 2) := by decide +kernel
theorem dd_Program_noted_3 : decode prog_7_method_8_code 3 = .ok (.imul, 1) := by decide +kernel
theorem dd_Program_noted_4 : decode prog_7_method_8_code 4 = .ok (.iload_n 2, 1) := by decide +kernel
theorem dd_Program_noted_5 : decode prog_7_method_8_code 5 = .ok (.iadd, 1) := by decide +kernel
theorem dd_Program_noted_6 : decode prog_7_method_8_code 6 = .ok (.istore_n 3, 1) := by decide +kernel
theorem dd_Program_noted_7 : decode prog_7_method_8_code 7 = .ok (.iload_n 3, 1) := by decide +kernel
theorem dd_Program_noted_8 : decode prog_7_method_8_code 8 = .ok (.ifCond .lt 21, 3) := by decide +kernel
theorem dd_Program_noted_11 : decode prog_7_method_8_code 11 = .ok (.iload_n 3, 1) := by decide +kernel
theorem dd_Program_noted_12 : decode prog_7_method_8_code 12 = .ok (.aload_n 0, 1) := by decide +kernel
theorem dd_Program_noted_13 : decode prog_7_method_8_code 13 = .ok (.getfield 18, 3) := by decide +kernel
theorem dd_Program_noted_16 : decode prog_7_method_8_code 16 = .ok (.arraylength, 1) := by decide +kernel
theorem dd_Program_noted_17 : decode prog_7_method_8_code 17 = .ok (.if_icmp .ge 12, 3) := by decide +kernel
theorem dd_Program_noted_20 : decode prog_7_method_8_code 20 = .ok (.aload_n 0, 1) := by decide +kernel
theorem dd_Program_noted_21 : decode prog_7_method_8_code 21 = .ok (.getfield 18, 3) := by decide +kernel
theorem dd_Program_noted_24 : decode prog_7_method_8_code 24 = .ok (.iload_n 3, 1) := by decide +kernel
theorem dd_Program_noted_25 : decode prog_7_method_8_code 25 = .ok (.iaload, 1) := by decide +kernel
theorem dd_Program_noted_26 : decode prog_7_method_8_code 26 = .ok (.goto 4, 3) := by decide +kernel
theorem dd_Program_noted_29 : decode prog_7_method_8_code 29 = .ok (.iconst 0, 1) := by decide +kernel
theorem dd_Program_noted_30 : decode prog_7_method_8_code 30 = .ok (.ireturn, 1) := by decide +kernel
def jx_Program_noted (p0 : Option Nat) (p1 : Int32) (p2 : Int32) : sf_M (Int32) :=
  sf_bnd (sf_ret (((p1 * (6 : Int32)) + p2))) fun y1 =>
  if y1 < 0 then (
  sf_ret (0 : Int32)
  ) else (
  sf_bnd (sf_gR 6 2 p0) fun x3 =>
  sf_bnd (sf_len x3) fun x4 =>
  if x4 ≤ y1 then (
  sf_ret (0 : Int32)
  ) else (
  sf_bnd (sf_gR 6 2 p0) fun x6 =>
  sf_bnd (sf_aI 0 x6 y1) fun x7 =>
  sf_ret x7
  )
  )
set_option maxRecDepth 20000 in
set_option maxHeartbeats 4000000 in
theorem ok_Program_noted (p0 : Option Nat) (p1 : Int32) (p2 : Int32) : sf_Ok ({ cls := "SplitFares$Program", name := "noted", desc := "(II)I" } : Jvm.MethodName) prog_7_method_8_code 4 (some .int) 0 [sf_rv p0, .int p1, .int p2] (jx_Program_noted p0 p1 p2) (fun r => some (.int r)) := by
  refine sf_Ok.of (env := [some (sf_rv p0), some (.int p1), some (.int p2), none]) (plainFor_of_name (by decide)) [false, false, false] (fun G => ⟨pk_r, pk_i, pk_i, trivial⟩) (Nat.le_of_ble_eq_true rfl) rfl (fun X => ?_)
  unfold jx_Program_noted
  refine fp_iload_n (i := 1) (x := p1) dd_Program_noted_0 rfl rfl (fr_pc (pc' := 1) rfl ?_)
  refine fp_bipush (v := (6 : Int32)) dd_Program_noted_1 (by decide) (fr_pc (pc' := 3) rfl ?_)
  refine fp_imul dd_Program_noted_3 (fr_pc (pc' := 4) rfl ?_)
  refine fp_iload_n (i := 2) (x := p2) dd_Program_noted_4 rfl rfl (fr_pc (pc' := 5) rfl ?_)
  refine fp_iadd dd_Program_noted_5 (fr_pc (pc' := 6) rfl ?_)
  refine fr_nistore_n (i := 3) dd_Program_noted_6 rfl (Nat.le_of_ble_eq_true rfl) (fun _ => c1_i rfl) (fun y1 => fr_to (pc' := 7) (env' := [some (sf_rv p0), some (.int p1), some (.int p2), some (.int y1)]) (stk' := []) rfl rfl rfl ?_)
  refine fp_iload_n (i := 3) (x := y1) dd_Program_noted_7 rfl rfl (fr_pc (pc' := 8) rfl ?_)
  refine fr_if_lt (tgt := 29) dd_Program_noted_8 rfl (fun _ => ?_) (fun _ => ?_)
  · refine fp_iconst (v := (0 : Int32)) dd_Program_noted_29 (by decide) (fr_pc (pc' := 30) rfl ?_)
    exact fr_iret (v := (0 : Int32)) rfl rfl dd_Program_noted_30
  · refine fr_pc (pc' := 11) rfl ?_
    refine fp_iload_n (i := 3) (x := y1) dd_Program_noted_11 rfl rfl (fr_pc (pc' := 12) rfl ?_)
    refine fp_aload_n (i := 0) (r := p0) dd_Program_noted_12 rfl rfl (fr_pc (pc' := 13) rfl ?_)
    refine fr_gR cl_6 2 (by decide) rfl sw_249 dd_Program_noted_13 (fun x3 => fr_pc (pc' := 16) rfl ?_)
    refine fr_len dd_Program_noted_16 (fun x4 => fr_pc (pc' := 17) rfl ?_)
    refine fr_icmp_ge (tgt := 29) dd_Program_noted_17 rfl (fun _ => ?_) (fun _ => ?_)
    · refine fp_iconst (v := (0 : Int32)) dd_Program_noted_29 (by decide) (fr_pc (pc' := 30) rfl ?_)
      exact fr_iret (v := (0 : Int32)) rfl rfl dd_Program_noted_30
    · refine fr_pc (pc' := 20) rfl ?_
      refine fp_aload_n (i := 0) (r := p0) dd_Program_noted_20 rfl rfl (fr_pc (pc' := 21) rfl ?_)
      refine fr_gR cl_6 2 (by decide) rfl sw_249 dd_Program_noted_21 (fun x6 => fr_pc (pc' := 24) rfl ?_)
      refine fp_iload_n (i := 3) (x := y1) dd_Program_noted_24 rfl rfl (fr_pc (pc' := 25) rfl ?_)
      refine fr_aI0 dd_Program_noted_25 (fun x7 => fr_pc (pc' := 26) rfl ?_)
      refine fp_goto (tgt := 30) dd_Program_noted_26 rfl ?_
      exact fr_iret (v := x7) rfl rfl dd_Program_noted_30
theorem mt_Program_opAt : sf_Mt ({ cls := "SplitFares$Program", name := "opAt", desc := "(I)I" } : Jvm.MethodName) prog_7_method_11_code 2 (some .int) 1 := ⟨sw_437, sw_10, ⟨by decide, by decide, by decide +kernel⟩, by decide⟩
theorem dd_Program_opAt_0 : decode prog_7_method_11_code 0 = .ok (.iload_n 1, 1) := by decide +kernel
theorem dd_Program_opAt_1 : decode prog_7_method_11_code 1 = .ok (.ifCond .lt 20, 3) := by decide +kernel
theorem dd_Program_opAt_4 : decode prog_7_method_11_code 4 = .ok (.iload_n 1, 1) := by decide +kernel
theorem dd_Program_opAt_5 : decode prog_7_method_11_code 5 = .ok (.aload_n 0, 1) := by decide +kernel
theorem dd_Program_opAt_6 : decode prog_7_method_11_code 6 = .ok (.getfield 21, 3) := by decide +kernel
theorem dd_Program_opAt_9 : decode prog_7_method_11_code 9 = .ok (.if_icmp .ge 12, 3) := by decide +kernel
theorem dd_Program_opAt_12 : decode prog_7_method_11_code 12 = .ok (.aload_n 0, 1) := by decide +kernel
theorem dd_Program_opAt_13 : decode prog_7_method_11_code 13 = .ok (.getfield 9, 3) := by decide +kernel
theorem dd_Program_opAt_16 : decode prog_7_method_11_code 16 = .ok (.iload_n 1, 1) := by decide +kernel
theorem dd_Program_opAt_17 : decode prog_7_method_11_code 17 = .ok (.iaload, 1) := by decide +kernel
theorem dd_Program_opAt_18 : decode prog_7_method_11_code 18 = .ok (.goto 4, 3) := by decide +kernel
theorem dd_Program_opAt_21 : decode prog_7_method_11_code 21 = .ok (.iconst 0, 1) := by decide +kernel
theorem dd_Program_opAt_22 : decode prog_7_method_11_code 22 = .ok (.ireturn, 1) := by decide +kernel
def jx_Program_opAt (p0 : Option Nat) (p1 : Int32) : sf_M (Int32) :=
  if p1 < 0 then (
  sf_ret (0 : Int32)
  ) else (
  sf_bnd (sf_gI 6 3 p0) fun x2 =>
  if x2 ≤ p1 then (
  sf_ret (0 : Int32)
  ) else (
  sf_bnd (sf_gR 6 0 p0) fun x4 =>
  sf_bnd (sf_aI 0 x4 p1) fun x5 =>
  sf_ret x5
  )
  )
set_option maxRecDepth 20000 in
set_option maxHeartbeats 4000000 in
theorem ok_Program_opAt (p0 : Option Nat) (p1 : Int32) : sf_Ok ({ cls := "SplitFares$Program", name := "opAt", desc := "(I)I" } : Jvm.MethodName) prog_7_method_11_code 2 (some .int) 0 [sf_rv p0, .int p1] (jx_Program_opAt p0 p1) (fun r => some (.int r)) := by
  refine sf_Ok.of (env := [some (sf_rv p0), some (.int p1)]) (plainFor_of_name (by decide)) [false, false] (fun G => ⟨pk_r, pk_i, trivial⟩) (Nat.le_of_ble_eq_true rfl) rfl (fun X => ?_)
  unfold jx_Program_opAt
  refine fp_iload_n (i := 1) (x := p1) dd_Program_opAt_0 rfl rfl (fr_pc (pc' := 1) rfl ?_)
  refine fr_if_lt (tgt := 21) dd_Program_opAt_1 rfl (fun _ => ?_) (fun _ => ?_)
  · refine fp_iconst (v := (0 : Int32)) dd_Program_opAt_21 (by decide) (fr_pc (pc' := 22) rfl ?_)
    exact fr_iret (v := (0 : Int32)) rfl rfl dd_Program_opAt_22
  · refine fr_pc (pc' := 4) rfl ?_
    refine fp_iload_n (i := 1) (x := p1) dd_Program_opAt_4 rfl rfl (fr_pc (pc' := 5) rfl ?_)
    refine fp_aload_n (i := 0) (r := p0) dd_Program_opAt_5 rfl rfl (fr_pc (pc' := 6) rfl ?_)
    refine fr_gI cl_6 3 (by decide) rfl sw_250 dd_Program_opAt_6 (fun x2 => fr_pc (pc' := 9) rfl ?_)
    refine fr_icmp_ge (tgt := 21) dd_Program_opAt_9 rfl (fun _ => ?_) (fun _ => ?_)
    · refine fp_iconst (v := (0 : Int32)) dd_Program_opAt_21 (by decide) (fr_pc (pc' := 22) rfl ?_)
      exact fr_iret (v := (0 : Int32)) rfl rfl dd_Program_opAt_22
    · refine fr_pc (pc' := 12) rfl ?_
      refine fp_aload_n (i := 0) (r := p0) dd_Program_opAt_12 rfl rfl (fr_pc (pc' := 13) rfl ?_)
      refine fr_gR cl_6 0 (by decide) rfl sw_247 dd_Program_opAt_13 (fun x4 => fr_pc (pc' := 16) rfl ?_)
      refine fp_iload_n (i := 1) (x := p1) dd_Program_opAt_16 rfl rfl (fr_pc (pc' := 17) rfl ?_)
      refine fr_aI0 dd_Program_opAt_17 (fun x5 => fr_pc (pc' := 18) rfl ?_)
      refine fp_goto (tgt := 22) dd_Program_opAt_18 rfl ?_
      exact fr_iret (v := x5) rfl rfl dd_Program_opAt_22
theorem mt_Program_argAt : sf_Mt ({ cls := "SplitFares$Program", name := "argAt", desc := "(I)I" } : Jvm.MethodName) prog_7_method_12_code 2 (some .int) 1 := ⟨sw_441, sw_10, ⟨by decide, by decide, by decide +kernel⟩, by decide⟩
theorem dd_Program_argAt_0 : decode prog_7_method_12_code 0 = .ok (.iload_n 1, 1) := by decide +kernel
theorem dd_Program_argAt_1 : decode prog_7_method_12_code 1 = .ok (.ifCond .lt 20, 3) := by decide +kernel
theorem dd_Program_argAt_4 : decode prog_7_method_12_code 4 = .ok (.iload_n 1, 1) := by decide +kernel
theorem dd_Program_argAt_5 : decode prog_7_method_12_code 5 = .ok (.aload_n 0, 1) := by decide +kernel
theorem dd_Program_argAt_6 : decode prog_7_method_12_code 6 = .ok (.getfield 21, 3) := by decide +kernel
theorem dd_Program_argAt_9 : decode prog_7_method_12_code 9 = .ok (.if_icmp .ge 12, 3) := by decide +kernel
theorem dd_Program_argAt_12 : decode prog_7_method_12_code 12 = .ok (.aload_n 0, 1) := by decide +kernel
theorem dd_Program_argAt_13 : decode prog_7_method_12_code 13 = .ok (.getfield 15, 3) := by decide +kernel
theorem dd_Program_argAt_16 : decode prog_7_method_12_code 16 = .ok (.iload_n 1, 1) := by decide +kernel
theorem dd_Program_argAt_17 : decode prog_7_method_12_code 17 = .ok (.iaload, 1) := by decide +kernel
theorem dd_Program_argAt_18 : decode prog_7_method_12_code 18 = .ok (.goto 4, 3) := by decide +kernel
theorem dd_Program_argAt_21 : decode prog_7_method_12_code 21 = .ok (.iconst 0, 1) := by decide +kernel
theorem dd_Program_argAt_22 : decode prog_7_method_12_code 22 = .ok (.ireturn, 1) := by decide +kernel
def jx_Program_argAt (p0 : Option Nat) (p1 : Int32) : sf_M (Int32) :=
  if p1 < 0 then (
  sf_ret (0 : Int32)
  ) else (
  sf_bnd (sf_gI 6 3 p0) fun x2 =>
  if x2 ≤ p1 then (
  sf_ret (0 : Int32)
  ) else (
  sf_bnd (sf_gR 6 1 p0) fun x4 =>
  sf_bnd (sf_aI 0 x4 p1) fun x5 =>
  sf_ret x5
  )
  )
set_option maxRecDepth 20000 in
set_option maxHeartbeats 4000000 in
theorem ok_Program_argAt (p0 : Option Nat) (p1 : Int32) : sf_Ok ({ cls := "SplitFares$Program", name := "argAt", desc := "(I)I" } : Jvm.MethodName) prog_7_method_12_code 2 (some .int) 0 [sf_rv p0, .int p1] (jx_Program_argAt p0 p1) (fun r => some (.int r)) := by
  refine sf_Ok.of (env := [some (sf_rv p0), some (.int p1)]) (plainFor_of_name (by decide)) [false, false] (fun G => ⟨pk_r, pk_i, trivial⟩) (Nat.le_of_ble_eq_true rfl) rfl (fun X => ?_)
  unfold jx_Program_argAt
  refine fp_iload_n (i := 1) (x := p1) dd_Program_argAt_0 rfl rfl (fr_pc (pc' := 1) rfl ?_)
  refine fr_if_lt (tgt := 21) dd_Program_argAt_1 rfl (fun _ => ?_) (fun _ => ?_)
  · refine fp_iconst (v := (0 : Int32)) dd_Program_argAt_21 (by decide) (fr_pc (pc' := 22) rfl ?_)
    exact fr_iret (v := (0 : Int32)) rfl rfl dd_Program_argAt_22
  · refine fr_pc (pc' := 4) rfl ?_
    refine fp_iload_n (i := 1) (x := p1) dd_Program_argAt_4 rfl rfl (fr_pc (pc' := 5) rfl ?_)
    refine fp_aload_n (i := 0) (r := p0) dd_Program_argAt_5 rfl rfl (fr_pc (pc' := 6) rfl ?_)
    refine fr_gI cl_6 3 (by decide) rfl sw_250 dd_Program_argAt_6 (fun x2 => fr_pc (pc' := 9) rfl ?_)
    refine fr_icmp_ge (tgt := 21) dd_Program_argAt_9 rfl (fun _ => ?_) (fun _ => ?_)
    · refine fp_iconst (v := (0 : Int32)) dd_Program_argAt_21 (by decide) (fr_pc (pc' := 22) rfl ?_)
      exact fr_iret (v := (0 : Int32)) rfl rfl dd_Program_argAt_22
    · refine fr_pc (pc' := 12) rfl ?_
      refine fp_aload_n (i := 0) (r := p0) dd_Program_argAt_12 rfl rfl (fr_pc (pc' := 13) rfl ?_)
      refine fr_gR cl_6 1 (by decide) rfl sw_248 dd_Program_argAt_13 (fun x4 => fr_pc (pc' := 16) rfl ?_)
      refine fp_iload_n (i := 1) (x := p1) dd_Program_argAt_16 rfl rfl (fr_pc (pc' := 17) rfl ?_)
      refine fr_aI0 dd_Program_argAt_17 (fun x5 => fr_pc (pc' := 18) rfl ?_)
      refine fp_goto (tgt := 22) dd_Program_argAt_18 rfl ?_
      exact fr_iret (v := x5) rfl rfl dd_Program_argAt_22
theorem mt_Program_clear : sf_Mt ({ cls := "SplitFares$Program", name := "clear", desc := "()V" } : Jvm.MethodName) prog_7_method_2_code 1 none 0 := ⟨sw_542, sw_10, ⟨by decide, by decide, by decide +kernel⟩, by decide⟩
theorem dd_Program_clear_0 : decode prog_7_method_2_code 0 = .ok (.aload_n 0, 1) := by decide +kernel
theorem dd_Program_clear_1 : decode prog_7_method_2_code 1 = .ok (.iconst 0, 1) := by decide +kernel
theorem dd_Program_clear_2 : decode prog_7_method_2_code 2 = .ok (.putfield 21, 3) := by decide +kernel
theorem dd_Program_clear_5 : decode prog_7_method_2_code 5 = .ok (.aload_n 0, 1) := by decide +kernel
theorem dd_Program_clear_6 : decode prog_7_method_2_code 6 = .ok (.iconst 0, 1) := by decide +kernel
theorem dd_Program_clear_7 : decode prog_7_method_2_code 7 = .ok (.putfield 25, 3) := by decide +kernel
theorem dd_Program_clear_10 : decode prog_7_method_2_code 10 = .ok (.return_, 1) := by decide +kernel
def jx_Program_clear (p0 : Option Nat) : sf_M (Unit) :=
  sf_bnd (sf_pI 6 3 p0 (0 : Int32)) fun _ =>
  sf_bnd (sf_pI 6 4 p0 (0 : Int32)) fun _ =>
  sf_ret ()
set_option maxRecDepth 20000 in
set_option maxHeartbeats 4000000 in
theorem ok_Program_clear (p0 : Option Nat) : sf_Ok ({ cls := "SplitFares$Program", name := "clear", desc := "()V" } : Jvm.MethodName) prog_7_method_2_code 1 none 0 [sf_rv p0] (jx_Program_clear p0) (fun _ => none) := by
  refine sf_Ok.of (env := [some (sf_rv p0)]) (plainFor_of_name (by decide)) [false] (fun G => ⟨pk_r, trivial⟩) (Nat.le_of_ble_eq_true rfl) rfl (fun X => ?_)
  unfold jx_Program_clear
  refine fp_aload_n (i := 0) (r := p0) dd_Program_clear_0 rfl rfl (fr_pc (pc' := 1) rfl ?_)
  refine fp_iconst (v := (0 : Int32)) dd_Program_clear_1 (by decide) (fr_pc (pc' := 2) rfl ?_)
  refine fr_pI cl_6 3 (by decide) rfl sw_250 rfl ⟨rfl, rfl⟩ dd_Program_clear_2 (fr_pc (pc' := 5) rfl ?_)
  refine fp_aload_n (i := 0) (r := p0) dd_Program_clear_5 rfl rfl (fr_pc (pc' := 6) rfl ?_)
  refine fp_iconst (v := (0 : Int32)) dd_Program_clear_6 (by decide) (fr_pc (pc' := 7) rfl ?_)
  refine fr_pI cl_6 4 (by decide) rfl sw_251 rfl ⟨rfl, rfl⟩ dd_Program_clear_7 (fr_pc (pc' := 10) rfl ?_)
  exact fr_vret rfl rfl dd_Program_clear_10
theorem mt_Program_note : sf_Mt ({ cls := "SplitFares$Program", name := "note", desc := "(II)V" } : Jvm.MethodName) prog_7_method_7_code 4 none 2 := ⟨sw_623, sw_10, ⟨by decide, by decide, by decide +kernel⟩, by decide⟩
theorem dd_Program_note_0 : decode prog_7_method_7_code 0 = .ok (.aload_n 0, 1) := by decide +kernel
theorem dd_Program_note_1 : decode prog_7_method_7_code 1 = .ok (.getfield 25, 3) := by decide +kernel
theorem dd_Program_note_4 : decode prog_7_method_7_code 4 = .ok (.bipush 6, 2) := by decide +kernel
theorem dd_Program_note_6 : decode prog_7_method_7_code 6 = .ok (.imul, 1) := by decide +kernel
theorem dd_Program_note_7 : decode prog_7_method_7_code 7 = .ok (.iload_n 1, 1) := by decide +kernel
theorem dd_Program_note_8 : decode prog_7_method_7_code 8 = .ok (.iadd, 1) := by decide +kernel
theorem dd_Program_note_9 : decode prog_7_method_7_code 9 = .ok (.istore_n 3, 1) := by decide +kernel
theorem dd_Program_note_10 : decode prog_7_method_7_code 10 = .ok (.iload_n 3, 1) := by decide +kernel
theorem dd_Program_note_11 : decode prog_7_method_7_code 11 = .ok (.ifCond .lt 19, 3) := by decide +kernel
theorem dd_Program_note_14 : decode prog_7_method_7_code 14 = .ok (.iload_n 3, 1) := by decide +kernel
theorem dd_Program_note_15 : decode prog_7_method_7_code 15 = .ok (.aload_n 0, 1) := by decide +kernel
theorem dd_Program_note_16 : decode prog_7_method_7_code 16 = .ok (.getfield 18, 3) := by decide +kernel
theorem dd_Program_note_19 : decode prog_7_method_7_code 19 = .ok (.arraylength, 1) := by decide +kernel
theorem dd_Program_note_20 : decode prog_7_method_7_code 20 = .ok (.if_icmp .ge 10, 3) := by decide +kernel
theorem dd_Program_note_23 : decode prog_7_method_7_code 23 = .ok (.aload_n 0, 1) := by decide +kernel
theorem dd_Program_note_24 : decode prog_7_method_7_code 24 = .ok (.getfield 18, 3) := by decide +kernel
theorem dd_Program_note_27 : decode prog_7_method_7_code 27 = .ok (.iload_n 3, 1) := by decide +kernel
theorem dd_Program_note_28 : decode prog_7_method_7_code 28 = .ok (.iload_n 2, 1) := by decide +kernel
theorem dd_Program_note_29 : decode prog_7_method_7_code 29 = .ok (.iastore, 1) := by decide +kernel
theorem dd_Program_note_30 : decode prog_7_method_7_code 30 = .ok (.return_, 1) := by decide +kernel
def jx_Program_note (p0 : Option Nat) (p1 : Int32) (p2 : Int32) : sf_M (Unit) :=
  sf_bnd (sf_gI 6 4 p0) fun x1 =>
  sf_bnd (sf_ret (((x1 * (6 : Int32)) + p1))) fun y2 =>
  if y2 < 0 then (
  sf_ret ()
  ) else (
  sf_bnd (sf_gR 6 2 p0) fun x4 =>
  sf_bnd (sf_len x4) fun x5 =>
  if x5 ≤ y2 then (
  sf_ret ()
  ) else (
  sf_bnd (sf_gR 6 2 p0) fun x7 =>
  sf_bnd (sf_sI 0 x7 y2 p2) fun _ =>
  sf_ret ()
  )
  )
set_option maxRecDepth 20000 in
set_option maxHeartbeats 4000000 in
theorem ok_Program_note (p0 : Option Nat) (p1 : Int32) (p2 : Int32) : sf_Ok ({ cls := "SplitFares$Program", name := "note", desc := "(II)V" } : Jvm.MethodName) prog_7_method_7_code 4 none 0 [sf_rv p0, .int p1, .int p2] (jx_Program_note p0 p1 p2) (fun _ => none) := by
  refine sf_Ok.of (env := [some (sf_rv p0), some (.int p1), some (.int p2), none]) (plainFor_of_name (by decide)) [false, false, false] (fun G => ⟨pk_r, pk_i, pk_i, trivial⟩) (Nat.le_of_ble_eq_true rfl) rfl (fun X => ?_)
  unfold jx_Program_note
  refine fp_aload_n (i := 0) (r := p0) dd_Program_note_0 rfl rfl (fr_pc (pc' := 1) rfl ?_)
  refine fr_gI cl_6 4 (by decide) rfl sw_251 dd_Program_note_1 (fun x1 => fr_pc (pc' := 4) rfl ?_)
  refine fp_bipush (v := (6 : Int32)) dd_Program_note_4 (by decide) (fr_pc (pc' := 6) rfl ?_)
  refine fp_imul dd_Program_note_6 (fr_pc (pc' := 7) rfl ?_)
  refine fp_iload_n (i := 1) (x := p1) dd_Program_note_7 rfl rfl (fr_pc (pc' := 8) rfl ?_)
  refine fp_iadd dd_Program_note_8 (fr_pc (pc' := 9) rfl ?_)
  refine fr_nistore_n (i := 3) dd_Program_note_9 rfl (Nat.le_of_ble_eq_true rfl) (fun _ => c1_i rfl) (fun y2 => fr_to (pc' := 10) (env' := [some (sf_rv p0), some (.int p1), some (.int p2), some (.int y2)]) (stk' := []) rfl rfl rfl ?_)
  refine fp_iload_n (i := 3) (x := y2) dd_Program_note_10 rfl rfl (fr_pc (pc' := 11) rfl ?_)
  refine fr_if_lt (tgt := 30) dd_Program_note_11 rfl (fun _ => ?_) (fun _ => ?_)
  · exact fr_vret rfl rfl dd_Program_note_30
  · refine fr_pc (pc' := 14) rfl ?_
    refine fp_iload_n (i := 3) (x := y2) dd_Program_note_14 rfl rfl (fr_pc (pc' := 15) rfl ?_)
    refine fp_aload_n (i := 0) (r := p0) dd_Program_note_15 rfl rfl (fr_pc (pc' := 16) rfl ?_)
    refine fr_gR cl_6 2 (by decide) rfl sw_249 dd_Program_note_16 (fun x4 => fr_pc (pc' := 19) rfl ?_)
    refine fr_len dd_Program_note_19 (fun x5 => fr_pc (pc' := 20) rfl ?_)
    refine fr_icmp_ge (tgt := 30) dd_Program_note_20 rfl (fun _ => ?_) (fun _ => ?_)
    · exact fr_vret rfl rfl dd_Program_note_30
    · refine fr_pc (pc' := 23) rfl ?_
      refine fp_aload_n (i := 0) (r := p0) dd_Program_note_23 rfl rfl (fr_pc (pc' := 24) rfl ?_)
      refine fr_gR cl_6 2 (by decide) rfl sw_249 dd_Program_note_24 (fun x7 => fr_pc (pc' := 27) rfl ?_)
      refine fp_iload_n (i := 3) (x := y2) dd_Program_note_27 rfl rfl (fr_pc (pc' := 28) rfl ?_)
      refine fp_iload_n (i := 2) (x := p2) dd_Program_note_28 rfl rfl (fr_pc (pc' := 29) rfl ?_)
      refine fr_sI0 dd_Program_note_29 (fr_pc (pc' := 30) rfl ?_)
      exact fr_vret rfl rfl dd_Program_note_30
theorem mt_Program_mark : sf_Mt ({ cls := "SplitFares$Program", name := "mark", desc := "(I)V" } : Jvm.MethodName) prog_7_method_5_code 2 none 1 := ⟨sw_627, sw_10, ⟨by decide, by decide, by decide +kernel⟩, by decide⟩
theorem dd_Program_mark_0 : decode prog_7_method_5_code 0 = .ok (.aload_n 0, 1) := by decide +kernel
theorem dd_Program_mark_1 : decode prog_7_method_5_code 1 = .ok (.iload_n 1, 1) := by decide +kernel
theorem dd_Program_mark_2 : decode prog_7_method_5_code 2 = .ok (.aload_n 0, 1) := by decide +kernel
theorem dd_Program_mark_3 : decode prog_7_method_5_code 3 = .ok (.getfield 21, 3) := by decide +kernel
theorem dd_Program_mark_6 : decode prog_7_method_5_code 6 = .ok (.invokevirtual 34, 3) := by decide +kernel
theorem dd_Program_mark_9 : decode prog_7_method_5_code 9 = .ok (.return_, 1) := by decide +kernel
def jx_Program_mark (p0 : Option Nat) (p1 : Int32) : sf_M (Unit) :=
  sf_bnd (sf_gI 6 3 p0) fun x1 =>
  sf_bnd (sf_rc 6 p0 (jx_Program_note p0 p1 x1)) fun _ =>
  sf_ret ()
set_option maxRecDepth 20000 in
set_option maxHeartbeats 4000000 in
theorem ok_Program_mark (p0 : Option Nat) (p1 : Int32) : sf_Ok ({ cls := "SplitFares$Program", name := "mark", desc := "(I)V" } : Jvm.MethodName) prog_7_method_5_code 2 none 1 [sf_rv p0, .int p1] (jx_Program_mark p0 p1) (fun _ => none) := by
  refine sf_Ok.of (env := [some (sf_rv p0), some (.int p1)]) (plainFor_of_name (by decide)) [false, false] (fun G => ⟨pk_r, pk_i, trivial⟩) (Nat.le_of_ble_eq_true rfl) rfl (fun X => ?_)
  unfold jx_Program_mark
  refine fp_aload_n (i := 0) (r := p0) dd_Program_mark_0 rfl rfl (fr_pc (pc' := 1) rfl ?_)
  refine fp_iload_n (i := 1) (x := p1) dd_Program_mark_1 rfl rfl (fr_pc (pc' := 2) rfl ?_)
  refine fp_aload_n (i := 0) (r := p0) dd_Program_mark_2 rfl rfl (fr_pc (pc' := 3) rfl ?_)
  refine fr_gI cl_6 3 (by decide) rfl sw_250 dd_Program_mark_3 (fun x1 => fr_pc (pc' := 6) rfl ?_)
  refine fr_callV (stk := []) (As := [.int p1, .int x1]) cl_6 (ok_Program_note p0 p1 x1) mt_Program_note rfl rfl sw_620 sw_621 sw_622 (by decide) (Nat.le_of_ble_eq_true rfl) dd_Program_mark_6 (fun u2 => fr_to (pc' := 9) (env' := [some (sf_rv p0), some (.int p1)]) (stk' := []) rfl rfl rfl ?_)
  exact fr_vret rfl rfl dd_Program_mark_9
theorem mt_Program_openClause : sf_Mt ({ cls := "SplitFares$Program", name := "openClause", desc := "(I)V" } : Jvm.MethodName) prog_7_method_4_code 2 none 1 := ⟨sw_619, sw_10, ⟨by decide, by decide, by decide +kernel⟩, by decide⟩
theorem dd_Program_openClause_0 : decode prog_7_method_4_code 0 = .ok (.aload_n 0, 1) := by decide +kernel
theorem dd_Program_openClause_1 : decode prog_7_method_4_code 1 = .ok (.iconst 0, 1) := by decide +kernel
theorem dd_Program_openClause_2 : decode prog_7_method_4_code 2 = .ok (.iload_n 1, 1) := by decide +kernel
theorem dd_Program_openClause_3 : decode prog_7_method_4_code 3 = .ok (.invokevirtual 34, 3) := by decide +kernel
theorem dd_Program_openClause_6 : decode prog_7_method_4_code 6 = .ok (.aload_n 0, 1) := by decide +kernel
theorem dd_Program_openClause_7 : decode prog_7_method_4_code 7 = .ok (.iconst 1, 1) := by decide +kernel
theorem dd_Program_openClause_8 : decode prog_7_method_4_code 8 = .ok (.iconst 1, 1) := by decide +kernel
theorem dd_Program_openClause_9 : decode prog_7_method_4_code 9 = .ok (.invokevirtual 34, 3) := by decide +kernel
theorem dd_Program_openClause_12 : decode prog_7_method_4_code 12 = .ok (.aload_n 0, 1) := by decide +kernel
theorem dd_Program_openClause_13 : decode prog_7_method_4_code 13 = .ok (.iconst 2, 1) := by decide +kernel
theorem dd_Program_openClause_14 : decode prog_7_method_4_code 14 = .ok (.invokevirtual 38, 3) := by decide +kernel
theorem dd_Program_openClause_17 : decode prog_7_method_4_code 17 = .ok (.return_, 1) := by decide +kernel
def jx_Program_openClause (p0 : Option Nat) (p1 : Int32) : sf_M (Unit) :=
  sf_bnd (sf_rc 6 p0 (jx_Program_note p0 (0 : Int32) p1)) fun _ =>
  sf_bnd (sf_rc 6 p0 (jx_Program_note p0 (1 : Int32) (1 : Int32))) fun _ =>
  sf_bnd (sf_rc 6 p0 (jx_Program_mark p0 (2 : Int32))) fun _ =>
  sf_ret ()
set_option maxRecDepth 20000 in
set_option maxHeartbeats 4000000 in
theorem ok_Program_openClause (p0 : Option Nat) (p1 : Int32) : sf_Ok ({ cls := "SplitFares$Program", name := "openClause", desc := "(I)V" } : Jvm.MethodName) prog_7_method_4_code 2 none 2 [sf_rv p0, .int p1] (jx_Program_openClause p0 p1) (fun _ => none) := by
  refine sf_Ok.of (env := [some (sf_rv p0), some (.int p1)]) (plainFor_of_name (by decide)) [false, false] (fun G => ⟨pk_r, pk_i, trivial⟩) (Nat.le_of_ble_eq_true rfl) rfl (fun X => ?_)
  unfold jx_Program_openClause
  refine fp_aload_n (i := 0) (r := p0) dd_Program_openClause_0 rfl rfl (fr_pc (pc' := 1) rfl ?_)
  refine fp_iconst (v := (0 : Int32)) dd_Program_openClause_1 (by decide) (fr_pc (pc' := 2) rfl ?_)
  refine fp_iload_n (i := 1) (x := p1) dd_Program_openClause_2 rfl rfl (fr_pc (pc' := 3) rfl ?_)
  refine fr_callV (stk := []) (As := [.int (0 : Int32), .int p1]) cl_6 (ok_Program_note p0 (0 : Int32) p1) mt_Program_note rfl rfl sw_620 sw_621 sw_622 (by decide) (Nat.le_of_ble_eq_true rfl) dd_Program_openClause_3 (fun u1 => fr_to (pc' := 6) (env' := [some (sf_rv p0), some (.int p1)]) (stk' := []) rfl rfl rfl ?_)
  refine fp_aload_n (i := 0) (r := p0) dd_Program_openClause_6 rfl rfl (fr_pc (pc' := 7) rfl ?_)
  refine fp_iconst (v := (1 : Int32)) dd_Program_openClause_7 (by decide) (fr_pc (pc' := 8) rfl ?_)
  refine fp_iconst (v := (1 : Int32)) dd_Program_openClause_8 (by decide) (fr_pc (pc' := 9) rfl ?_)
  refine fr_callV (stk := []) (As := [.int (1 : Int32), .int (1 : Int32)]) cl_6 (ok_Program_note p0 (1 : Int32) (1 : Int32)) mt_Program_note rfl rfl sw_620 sw_621 sw_622 (by decide) (Nat.le_of_ble_eq_true rfl) dd_Program_openClause_9 (fun u2 => fr_to (pc' := 12) (env' := [some (sf_rv p0), some (.int p1)]) (stk' := []) rfl rfl rfl ?_)
  refine fp_aload_n (i := 0) (r := p0) dd_Program_openClause_12 rfl rfl (fr_pc (pc' := 13) rfl ?_)
  refine fp_iconst (v := (2 : Int32)) dd_Program_openClause_13 (by decide) (fr_pc (pc' := 14) rfl ?_)
  refine fr_callV (stk := []) (As := [.int (2 : Int32)]) cl_6 (ok_Program_mark p0 (2 : Int32)) mt_Program_mark rfl rfl sw_624 sw_625 sw_626 (by decide) (Nat.le_of_ble_eq_true rfl) dd_Program_openClause_14 (fun u3 => fr_to (pc' := 17) (env' := [some (sf_rv p0), some (.int p1)]) (stk' := []) rfl rfl rfl ?_)
  exact fr_vret rfl rfl dd_Program_openClause_17
theorem mt_Program_put : sf_Mt ({ cls := "SplitFares$Program", name := "put", desc := "(II)I" } : Jvm.MethodName) prog_7_method_9_code 3 (some .int) 2 := ⟨sw_642, sw_10, ⟨by decide, by decide, by decide +kernel⟩, by decide⟩
theorem dd_Program_put_0 : decode prog_7_method_9_code 0 = .ok (.aload_n 0, 1) := by decide +kernel
theorem dd_Program_put_1 : decode prog_7_method_9_code 1 = .ok (.getfield 21, 3) := by decide +kernel
theorem dd_Program_put_4 : decode prog_7_method_9_code 4 = .ok (.ifCond .lt 43, 3) := by decide +kernel
theorem dd_Program_put_7 : decode prog_7_method_9_code 7 = .ok (.aload_n 0, 1) := by decide +kernel
theorem dd_Program_put_8 : decode prog_7_method_9_code 8 = .ok (.getfield 21, 3) := by decide +kernel
theorem dd_Program_put_11 : decode prog_7_method_9_code 11 = .ok (.sipush 400, 3) := by decide +kernel
theorem dd_Program_put_14 : decode prog_7_method_9_code 14 = .ok (.if_icmp .ge 33, 3) := by decide +kernel
theorem dd_Program_put_17 : decode prog_7_method_9_code 17 = .ok (.aload_n 0, 1) := by decide +kernel
theorem dd_Program_put_18 : decode prog_7_method_9_code 18 = .ok (.getfield 9, 3) := by decide +kernel
theorem dd_Program_put_21 : decode prog_7_method_9_code 21 = .ok (.aload_n 0, 1) := by decide +kernel
theorem dd_Program_put_22 : decode prog_7_method_9_code 22 = .ok (.getfield 21, 3) := by decide +kernel
theorem dd_Program_put_25 : decode prog_7_method_9_code 25 = .ok (.iload_n 1, 1) := by decide +kernel
theorem dd_Program_put_26 : decode prog_7_method_9_code 26 = .ok (.iastore, 1) := by decide +kernel
theorem dd_Program_put_27 : decode prog_7_method_9_code 27 = .ok (.aload_n 0, 1) := by decide +kernel
theorem dd_Program_put_28 : decode prog_7_method_9_code 28 = .ok (.getfield 15, 3) := by decide +kernel
theorem dd_Program_put_31 : decode prog_7_method_9_code 31 = .ok (.aload_n 0, 1) := by decide +kernel
theorem dd_Program_put_32 : decode prog_7_method_9_code 32 = .ok (.getfield 21, 3) := by decide +kernel
theorem dd_Program_put_35 : decode prog_7_method_9_code 35 = .ok (.iload_n 2, 1) := by decide +kernel
theorem dd_Program_put_36 : decode prog_7_method_9_code 36 = .ok (.iastore, 1) := by decide +kernel
theorem dd_Program_put_37 : decode prog_7_method_9_code 37 = .ok (.aload_n 0, 1) := by decide +kernel
theorem dd_Program_put_38 : decode prog_7_method_9_code 38 = .ok (.dup, 1) := by decide +kernel
theorem dd_Program_put_39 : decode prog_7_method_9_code 39 = .ok (.getfield 21, 3) := by decide +kernel
theorem dd_Program_put_42 : decode prog_7_method_9_code 42 = .ok (.iconst 1, 1) := by decide +kernel
theorem dd_Program_put_43 : decode prog_7_method_9_code 43 = .ok (.iadd, 1) := by decide +kernel
theorem dd_Program_put_44 : decode prog_7_method_9_code 44 = .ok (.putfield 21, 3) := by decide +kernel
theorem dd_Program_put_47 : decode prog_7_method_9_code 47 = .ok (.aload_n 0, 1) := by decide +kernel
theorem dd_Program_put_48 : decode prog_7_method_9_code 48 = .ok (.getfield 21, 3) := by decide +kernel
theorem dd_Program_put_51 : decode prog_7_method_9_code 51 = .ok (.iconst 1, 1) := by decide +kernel
theorem dd_Program_put_52 : decode prog_7_method_9_code 52 = .ok (.isub, 1) := by decide +kernel
theorem dd_Program_put_53 : decode prog_7_method_9_code 53 = .ok (.ireturn, 1) := by decide +kernel
def jx_Program_put (p0 : Option Nat) (p1 : Int32) (p2 : Int32) : sf_M (Int32) :=
  sf_bnd (sf_gI 6 3 p0) fun x1 =>
  if x1 < 0 then (
  sf_bnd (sf_gI 6 3 p0) fun x3 =>
  sf_ret (x3 - (1 : Int32))
  ) else (
  sf_bnd (sf_gI 6 3 p0) fun x4 =>
  if (400 : Int32) ≤ x4 then (
  sf_bnd (sf_gI 6 3 p0) fun x6 =>
  sf_ret (x6 - (1 : Int32))
  ) else (
  sf_bnd (sf_gR 6 0 p0) fun x7 =>
  sf_bnd (sf_gI 6 3 p0) fun x8 =>
  sf_bnd (sf_sI 0 x7 x8 p1) fun _ =>
  sf_bnd (sf_gR 6 1 p0) fun x9 =>
  sf_bnd (sf_gI 6 3 p0) fun x10 =>
  sf_bnd (sf_sI 0 x9 x10 p2) fun _ =>
  sf_bnd (sf_gI 6 3 p0) fun x11 =>
  sf_bnd (sf_pI 6 3 p0 (x11 + (1 : Int32))) fun _ =>
  sf_bnd (sf_gI 6 3 p0) fun x12 =>
  sf_ret (x12 - (1 : Int32))
  )
  )
set_option maxRecDepth 20000 in
set_option maxHeartbeats 4000000 in
theorem ok_Program_put (p0 : Option Nat) (p1 : Int32) (p2 : Int32) : sf_Ok ({ cls := "SplitFares$Program", name := "put", desc := "(II)I" } : Jvm.MethodName) prog_7_method_9_code 3 (some .int) 0 [sf_rv p0, .int p1, .int p2] (jx_Program_put p0 p1 p2) (fun r => some (.int r)) := by
  refine sf_Ok.of (env := [some (sf_rv p0), some (.int p1), some (.int p2)]) (plainFor_of_name (by decide)) [false, false, false] (fun G => ⟨pk_r, pk_i, pk_i, trivial⟩) (Nat.le_of_ble_eq_true rfl) rfl (fun X => ?_)
  unfold jx_Program_put
  refine fp_aload_n (i := 0) (r := p0) dd_Program_put_0 rfl rfl (fr_pc (pc' := 1) rfl ?_)
  refine fr_gI cl_6 3 (by decide) rfl sw_250 dd_Program_put_1 (fun x1 => fr_pc (pc' := 4) rfl ?_)
  refine fr_if_lt (tgt := 47) dd_Program_put_4 rfl (fun _ => ?_) (fun _ => ?_)
  · refine fp_aload_n (i := 0) (r := p0) dd_Program_put_47 rfl rfl (fr_pc (pc' := 48) rfl ?_)
    refine fr_gI cl_6 3 (by decide) rfl sw_250 dd_Program_put_48 (fun x3 => fr_pc (pc' := 51) rfl ?_)
    refine fp_iconst (v := (1 : Int32)) dd_Program_put_51 (by decide) (fr_pc (pc' := 52) rfl ?_)
    refine fp_isub dd_Program_put_52 (fr_pc (pc' := 53) rfl ?_)
    exact fr_iret (v := (x3 - (1 : Int32))) rfl rfl dd_Program_put_53
  · refine fr_pc (pc' := 7) rfl ?_
    refine fp_aload_n (i := 0) (r := p0) dd_Program_put_7 rfl rfl (fr_pc (pc' := 8) rfl ?_)
    refine fr_gI cl_6 3 (by decide) rfl sw_250 dd_Program_put_8 (fun x4 => fr_pc (pc' := 11) rfl ?_)
    refine fp_sipush (v := (400 : Int32)) dd_Program_put_11 (by decide) (fr_pc (pc' := 14) rfl ?_)
    refine fr_icmp_ge (tgt := 47) dd_Program_put_14 rfl (fun _ => ?_) (fun _ => ?_)
    · refine fp_aload_n (i := 0) (r := p0) dd_Program_put_47 rfl rfl (fr_pc (pc' := 48) rfl ?_)
      refine fr_gI cl_6 3 (by decide) rfl sw_250 dd_Program_put_48 (fun x6 => fr_pc (pc' := 51) rfl ?_)
      refine fp_iconst (v := (1 : Int32)) dd_Program_put_51 (by decide) (fr_pc (pc' := 52) rfl ?_)
      refine fp_isub dd_Program_put_52 (fr_pc (pc' := 53) rfl ?_)
      exact fr_iret (v := (x6 - (1 : Int32))) rfl rfl dd_Program_put_53
    · refine fr_pc (pc' := 17) rfl ?_
      refine fp_aload_n (i := 0) (r := p0) dd_Program_put_17 rfl rfl (fr_pc (pc' := 18) rfl ?_)
      refine fr_gR cl_6 0 (by decide) rfl sw_247 dd_Program_put_18 (fun x7 => fr_pc (pc' := 21) rfl ?_)
      refine fp_aload_n (i := 0) (r := p0) dd_Program_put_21 rfl rfl (fr_pc (pc' := 22) rfl ?_)
      refine fr_gI cl_6 3 (by decide) rfl sw_250 dd_Program_put_22 (fun x8 => fr_pc (pc' := 25) rfl ?_)
      refine fp_iload_n (i := 1) (x := p1) dd_Program_put_25 rfl rfl (fr_pc (pc' := 26) rfl ?_)
      refine fr_sI0 dd_Program_put_26 (fr_pc (pc' := 27) rfl ?_)
      refine fp_aload_n (i := 0) (r := p0) dd_Program_put_27 rfl rfl (fr_pc (pc' := 28) rfl ?_)
      refine fr_gR cl_6 1 (by decide) rfl sw_248 dd_Program_put_28 (fun x9 => fr_pc (pc' := 31) rfl ?_)
      refine fp_aload_n (i := 0) (r := p0) dd_Program_put_31 rfl rfl (fr_pc (pc' := 32) rfl ?_)
      refine fr_gI cl_6 3 (by decide) rfl sw_250 dd_Program_put_32 (fun x10 => fr_pc (pc' := 35) rfl ?_)
      refine fp_iload_n (i := 2) (x := p2) dd_Program_put_35 rfl rfl (fr_pc (pc' := 36) rfl ?_)
      refine fr_sI0 dd_Program_put_36 (fr_pc (pc' := 37) rfl ?_)
      refine fp_aload_n (i := 0) (r := p0) dd_Program_put_37 rfl rfl (fr_pc (pc' := 38) rfl ?_)
      refine fp_dup_r dd_Program_put_38 (fr_pc (pc' := 39) rfl ?_)
      refine fr_gI cl_6 3 (by decide) rfl sw_250 dd_Program_put_39 (fun x11 => fr_pc (pc' := 42) rfl ?_)
      refine fp_iconst (v := (1 : Int32)) dd_Program_put_42 (by decide) (fr_pc (pc' := 43) rfl ?_)
      refine fp_iadd dd_Program_put_43 (fr_pc (pc' := 44) rfl ?_)
      refine fr_pI cl_6 3 (by decide) rfl sw_250 rfl ⟨rfl, rfl⟩ dd_Program_put_44 (fr_pc (pc' := 47) rfl ?_)
      refine fp_aload_n (i := 0) (r := p0) dd_Program_put_47 rfl rfl (fr_pc (pc' := 48) rfl ?_)
      refine fr_gI cl_6 3 (by decide) rfl sw_250 dd_Program_put_48 (fun x12 => fr_pc (pc' := 51) rfl ?_)
      refine fp_iconst (v := (1 : Int32)) dd_Program_put_51 (by decide) (fr_pc (pc' := 52) rfl ?_)
      refine fp_isub dd_Program_put_52 (fr_pc (pc' := 53) rfl ?_)
      exact fr_iret (v := (x12 - (1 : Int32))) rfl rfl dd_Program_put_53
theorem mt_Program_aim : sf_Mt ({ cls := "SplitFares$Program", name := "aim", desc := "(I)V" } : Jvm.MethodName) prog_7_method_10_code 2 none 1 := ⟨sw_694, sw_10, ⟨by decide, by decide, by decide +kernel⟩, by decide⟩
theorem dd_Program_aim_0 : decode prog_7_method_10_code 0 = .ok (.iload_n 1, 1) := by decide +kernel
theorem dd_Program_aim_1 : decode prog_7_method_10_code 1 = .ok (.ifCond .lt 25, 3) := by decide +kernel
theorem dd_Program_aim_4 : decode prog_7_method_10_code 4 = .ok (.iload_n 1, 1) := by decide +kernel
theorem dd_Program_aim_5 : decode prog_7_method_10_code 5 = .ok (.aload_n 0, 1) := by decide +kernel
theorem dd_Program_aim_6 : decode prog_7_method_10_code 6 = .ok (.getfield 21, 3) := by decide +kernel
theorem dd_Program_aim_9 : decode prog_7_method_10_code 9 = .ok (.if_icmp .ge 17, 3) := by decide +kernel
theorem dd_Program_aim_12 : decode prog_7_method_10_code 12 = .ok (.aload_n 0, 1) := by decide +kernel
theorem dd_Program_aim_13 : decode prog_7_method_10_code 13 = .ok (.getfield 15, 3) := by decide +kernel
theorem dd_Program_aim_16 : decode prog_7_method_10_code 16 = .ok (.iload_n 1, 1) := by decide +kernel
theorem dd_Program_aim_17 : decode prog_7_method_10_code 17 = .ok (.aload_n 0, 1) := by decide +kernel
theorem dd_Program_aim_18 : decode prog_7_method_10_code 18 = .ok (.getfield 21, 3) := by decide +kernel
theorem dd_Program_aim_21 : decode prog_7_method_10_code 21 = .ok (.iconst 1, 1) := by decide +kernel
theorem dd_Program_aim_22 : decode prog_7_method_10_code 22 = .ok (.isub, 1) := by decide +kernel
theorem dd_Program_aim_23 : decode prog_7_method_10_code 23 = .ok (.iload_n 1, 1) := by decide +kernel
theorem dd_Program_aim_24 : decode prog_7_method_10_code 24 = .ok (.isub, 1) := by decide +kernel
theorem dd_Program_aim_25 : decode prog_7_method_10_code 25 = .ok (.iastore, 1) := by decide +kernel
theorem dd_Program_aim_26 : decode prog_7_method_10_code 26 = .ok (.return_, 1) := by decide +kernel
def jx_Program_aim (p0 : Option Nat) (p1 : Int32) : sf_M (Unit) :=
  if p1 < 0 then (
  sf_ret ()
  ) else (
  sf_bnd (sf_gI 6 3 p0) fun x2 =>
  if x2 ≤ p1 then (
  sf_ret ()
  ) else (
  sf_bnd (sf_gR 6 1 p0) fun x4 =>
  sf_bnd (sf_gI 6 3 p0) fun x5 =>
  sf_bnd (sf_sI 0 x4 p1 ((x5 - (1 : Int32)) - p1)) fun _ =>
  sf_ret ()
  )
  )
set_option maxRecDepth 20000 in
set_option maxHeartbeats 4000000 in
theorem ok_Program_aim (p0 : Option Nat) (p1 : Int32) : sf_Ok ({ cls := "SplitFares$Program", name := "aim", desc := "(I)V" } : Jvm.MethodName) prog_7_method_10_code 2 none 0 [sf_rv p0, .int p1] (jx_Program_aim p0 p1) (fun _ => none) := by
  refine sf_Ok.of (env := [some (sf_rv p0), some (.int p1)]) (plainFor_of_name (by decide)) [false, false] (fun G => ⟨pk_r, pk_i, trivial⟩) (Nat.le_of_ble_eq_true rfl) rfl (fun X => ?_)
  unfold jx_Program_aim
  refine fp_iload_n (i := 1) (x := p1) dd_Program_aim_0 rfl rfl (fr_pc (pc' := 1) rfl ?_)
  refine fr_if_lt (tgt := 26) dd_Program_aim_1 rfl (fun _ => ?_) (fun _ => ?_)
  · exact fr_vret rfl rfl dd_Program_aim_26
  · refine fr_pc (pc' := 4) rfl ?_
    refine fp_iload_n (i := 1) (x := p1) dd_Program_aim_4 rfl rfl (fr_pc (pc' := 5) rfl ?_)
    refine fp_aload_n (i := 0) (r := p0) dd_Program_aim_5 rfl rfl (fr_pc (pc' := 6) rfl ?_)
    refine fr_gI cl_6 3 (by decide) rfl sw_250 dd_Program_aim_6 (fun x2 => fr_pc (pc' := 9) rfl ?_)
    refine fr_icmp_ge (tgt := 26) dd_Program_aim_9 rfl (fun _ => ?_) (fun _ => ?_)
    · exact fr_vret rfl rfl dd_Program_aim_26
    · refine fr_pc (pc' := 12) rfl ?_
      refine fp_aload_n (i := 0) (r := p0) dd_Program_aim_12 rfl rfl (fr_pc (pc' := 13) rfl ?_)
      refine fr_gR cl_6 1 (by decide) rfl sw_248 dd_Program_aim_13 (fun x4 => fr_pc (pc' := 16) rfl ?_)
      refine fp_iload_n (i := 1) (x := p1) dd_Program_aim_16 rfl rfl (fr_pc (pc' := 17) rfl ?_)
      refine fp_aload_n (i := 0) (r := p0) dd_Program_aim_17 rfl rfl (fr_pc (pc' := 18) rfl ?_)
      refine fr_gI cl_6 3 (by decide) rfl sw_250 dd_Program_aim_18 (fun x5 => fr_pc (pc' := 21) rfl ?_)
      refine fp_iconst (v := (1 : Int32)) dd_Program_aim_21 (by decide) (fr_pc (pc' := 22) rfl ?_)
      refine fp_isub dd_Program_aim_22 (fr_pc (pc' := 23) rfl ?_)
      refine fp_iload_n (i := 1) (x := p1) dd_Program_aim_23 rfl rfl (fr_pc (pc' := 24) rfl ?_)
      refine fp_isub dd_Program_aim_24 (fr_pc (pc' := 25) rfl ?_)
      refine fr_sI0 dd_Program_aim_25 (fr_pc (pc' := 26) rfl ?_)
      exact fr_vret rfl rfl dd_Program_aim_26
theorem mt_Program_closeClause : sf_Mt ({ cls := "SplitFares$Program", name := "closeClause", desc := "()V" } : Jvm.MethodName) prog_7_method_6_code 1 none 0 := ⟨sw_707, sw_10, ⟨by decide, by decide, by decide +kernel⟩, by decide⟩
theorem dd_Program_closeClause_0 : decode prog_7_method_6_code 0 = .ok (.aload_n 0, 1) := by decide +kernel
theorem dd_Program_closeClause_1 : decode prog_7_method_6_code 1 = .ok (.iconst 5, 1) := by decide +kernel
theorem dd_Program_closeClause_2 : decode prog_7_method_6_code 2 = .ok (.invokevirtual 38, 3) := by decide +kernel
theorem dd_Program_closeClause_5 : decode prog_7_method_6_code 5 = .ok (.aload_n 0, 1) := by decide +kernel
theorem dd_Program_closeClause_6 : decode prog_7_method_6_code 6 = .ok (.dup, 1) := by decide +kernel
theorem dd_Program_closeClause_7 : decode prog_7_method_6_code 7 = .ok (.getfield 25, 3) := by decide +kernel
theorem dd_Program_closeClause_10 : decode prog_7_method_6_code 10 = .ok (.iconst 1, 1) := by decide +kernel
theorem dd_Program_closeClause_11 : decode prog_7_method_6_code 11 = .ok (.iadd, 1) := by decide +kernel
theorem dd_Program_closeClause_12 : decode prog_7_method_6_code 12 = .ok (.putfield 25, 3) := by decide +kernel
theorem dd_Program_closeClause_15 : decode prog_7_method_6_code 15 = .ok (.return_, 1) := by decide +kernel
def jx_Program_closeClause (p0 : Option Nat) : sf_M (Unit) :=
  sf_bnd (sf_rc 6 p0 (jx_Program_mark p0 (5 : Int32))) fun _ =>
  sf_bnd (sf_gI 6 4 p0) fun x2 =>
  sf_bnd (sf_pI 6 4 p0 (x2 + (1 : Int32))) fun _ =>
  sf_ret ()
set_option maxRecDepth 20000 in
set_option maxHeartbeats 4000000 in
theorem ok_Program_closeClause (p0 : Option Nat) : sf_Ok ({ cls := "SplitFares$Program", name := "closeClause", desc := "()V" } : Jvm.MethodName) prog_7_method_6_code 1 none 2 [sf_rv p0] (jx_Program_closeClause p0) (fun _ => none) := by
  refine sf_Ok.of (env := [some (sf_rv p0)]) (plainFor_of_name (by decide)) [false] (fun G => ⟨pk_r, trivial⟩) (Nat.le_of_ble_eq_true rfl) rfl (fun X => ?_)
  unfold jx_Program_closeClause
  refine fp_aload_n (i := 0) (r := p0) dd_Program_closeClause_0 rfl rfl (fr_pc (pc' := 1) rfl ?_)
  refine fp_iconst (v := (5 : Int32)) dd_Program_closeClause_1 (by decide) (fr_pc (pc' := 2) rfl ?_)
  refine fr_callV (stk := []) (As := [.int (5 : Int32)]) cl_6 (ok_Program_mark p0 (5 : Int32)) mt_Program_mark rfl rfl sw_624 sw_625 sw_626 (by decide) (Nat.le_of_ble_eq_true rfl) dd_Program_closeClause_2 (fun u1 => fr_to (pc' := 5) (env' := [some (sf_rv p0)]) (stk' := []) rfl rfl rfl ?_)
  refine fp_aload_n (i := 0) (r := p0) dd_Program_closeClause_5 rfl rfl (fr_pc (pc' := 6) rfl ?_)
  refine fp_dup_r dd_Program_closeClause_6 (fr_pc (pc' := 7) rfl ?_)
  refine fr_gI cl_6 4 (by decide) rfl sw_251 dd_Program_closeClause_7 (fun x2 => fr_pc (pc' := 10) rfl ?_)
  refine fp_iconst (v := (1 : Int32)) dd_Program_closeClause_10 (by decide) (fr_pc (pc' := 11) rfl ?_)
  refine fp_iadd dd_Program_closeClause_11 (fr_pc (pc' := 12) rfl ?_)
  refine fr_pI cl_6 4 (by decide) rfl sw_251 rfl ⟨rfl, rfl⟩ dd_Program_closeClause_12 (fr_pc (pc' := 15) rfl ?_)
  exact fr_vret rfl rfl dd_Program_closeClause_15
theorem mt_Program_copyFrom : sf_Mt ({ cls := "SplitFares$Program", name := "copyFrom", desc := "(LSplitFares$Program;)V" } : Jvm.MethodName) prog_7_method_3_code 2 none 1 := ⟨sw_729, sw_10, ⟨by decide, by decide, by decide +kernel⟩, by decide⟩
theorem dd_Program_copyFrom_0 : decode prog_7_method_3_code 0 = .ok (.aload_n 1, 1) := by decide +kernel
theorem dd_Program_copyFrom_1 : decode prog_7_method_3_code 1 = .ok (.getfield 9, 3) := by decide +kernel
theorem dd_Program_copyFrom_4 : decode prog_7_method_3_code 4 = .ok (.iconst 0, 1) := by decide +kernel
theorem dd_Program_copyFrom_5 : decode prog_7_method_3_code 5 = .ok (.aload_n 0, 1) := by decide +kernel
theorem dd_Program_copyFrom_6 : decode prog_7_method_3_code 6 = .ok (.getfield 9, 3) := by decide +kernel
theorem dd_Program_copyFrom_9 : decode prog_7_method_3_code 9 = .ok (.iconst 0, 1) := by decide +kernel
theorem dd_Program_copyFrom_10 : decode prog_7_method_3_code 10 = .ok (.sipush 400, 3) := by decide +kernel
theorem dd_Program_copyFrom_13 : decode prog_7_method_3_code 13 = .ok (.invokestatic 28, 3) := by decide +kernel
theorem dd_Program_copyFrom_16 : decode prog_7_method_3_code 16 = .ok (.aload_n 1, 1) := by decide +kernel
theorem dd_Program_copyFrom_17 : decode prog_7_method_3_code 17 = .ok (.getfield 15, 3) := by decide +kernel
theorem dd_Program_copyFrom_20 : decode prog_7_method_3_code 20 = .ok (.iconst 0, 1) := by decide +kernel
theorem dd_Program_copyFrom_21 : decode prog_7_method_3_code 21 = .ok (.aload_n 0, 1) := by decide +kernel
theorem dd_Program_copyFrom_22 : decode prog_7_method_3_code 22 = .ok (.getfield 15, 3) := by decide +kernel
theorem dd_Program_copyFrom_25 : decode prog_7_method_3_code 25 = .ok (.iconst 0, 1) := by decide +kernel
theorem dd_Program_copyFrom_26 : decode prog_7_method_3_code 26 = .ok (.sipush 400, 3) := by decide +kernel
theorem dd_Program_copyFrom_29 : decode prog_7_method_3_code 29 = .ok (.invokestatic 28, 3) := by decide +kernel
theorem dd_Program_copyFrom_32 : decode prog_7_method_3_code 32 = .ok (.aload_n 1, 1) := by decide +kernel
theorem dd_Program_copyFrom_33 : decode prog_7_method_3_code 33 = .ok (.getfield 18, 3) := by decide +kernel
theorem dd_Program_copyFrom_36 : decode prog_7_method_3_code 36 = .ok (.iconst 0, 1) := by decide +kernel
theorem dd_Program_copyFrom_37 : decode prog_7_method_3_code 37 = .ok (.aload_n 0, 1) := by decide +kernel
theorem dd_Program_copyFrom_38 : decode prog_7_method_3_code 38 = .ok (.getfield 18, 3) := by decide +kernel
theorem dd_Program_copyFrom_41 : decode prog_7_method_3_code 41 = .ok (.iconst 0, 1) := by decide +kernel
theorem dd_Program_copyFrom_42 : decode prog_7_method_3_code 42 = .ok (.aload_n 0, 1) := by decide +kernel
theorem dd_Program_copyFrom_43 : decode prog_7_method_3_code 43 = .ok (.getfield 18, 3) := by decide +kernel
theorem dd_Program_copyFrom_46 : decode prog_7_method_3_code 46 = .ok (.arraylength, 1) := by decide +kernel
theorem dd_Program_copyFrom_47 : decode prog_7_method_3_code 47 = .ok (.invokestatic 28, 3) := by decide +kernel
theorem dd_Program_copyFrom_50 : decode prog_7_method_3_code 50 = .ok (.aload_n 0, 1) := by decide +kernel
theorem dd_Program_copyFrom_51 : decode prog_7_method_3_code 51 = .ok (.aload_n 1, 1) := by decide +kernel
theorem dd_Program_copyFrom_52 : decode prog_7_method_3_code 52 = .ok (.getfield 21, 3) := by decide +kernel
theorem dd_Program_copyFrom_55 : decode prog_7_method_3_code 55 = .ok (.putfield 21, 3) := by decide +kernel
theorem dd_Program_copyFrom_58 : decode prog_7_method_3_code 58 = .ok (.aload_n 0, 1) := by decide +kernel
theorem dd_Program_copyFrom_59 : decode prog_7_method_3_code 59 = .ok (.aload_n 1, 1) := by decide +kernel
theorem dd_Program_copyFrom_60 : decode prog_7_method_3_code 60 = .ok (.getfield 25, 3) := by decide +kernel
theorem dd_Program_copyFrom_63 : decode prog_7_method_3_code 63 = .ok (.putfield 25, 3) := by decide +kernel
theorem dd_Program_copyFrom_66 : decode prog_7_method_3_code 66 = .ok (.return_, 1) := by decide +kernel
def jx_Program_copyFrom (p0 : Option Nat) (p1 : Option Nat) : sf_M (Unit) :=
  sf_bnd (sf_gR 6 0 p1) fun x1 =>
  sf_bnd (sf_gR 6 0 p0) fun x2 =>
  sf_bnd (sf_cpI x1 (0 : Int32) x2 (0 : Int32) (400 : Int32)) fun _ =>
  sf_bnd (sf_gR 6 1 p1) fun x3 =>
  sf_bnd (sf_gR 6 1 p0) fun x4 =>
  sf_bnd (sf_cpI x3 (0 : Int32) x4 (0 : Int32) (400 : Int32)) fun _ =>
  sf_bnd (sf_gR 6 2 p1) fun x5 =>
  sf_bnd (sf_gR 6 2 p0) fun x6 =>
  sf_bnd (sf_gR 6 2 p0) fun x7 =>
  sf_bnd (sf_len x7) fun x8 =>
  sf_bnd (sf_cpI x5 (0 : Int32) x6 (0 : Int32) x8) fun _ =>
  sf_bnd (sf_gI 6 3 p1) fun x9 =>
  sf_bnd (sf_pI 6 3 p0 x9) fun _ =>
  sf_bnd (sf_gI 6 4 p1) fun x10 =>
  sf_bnd (sf_pI 6 4 p0 x10) fun _ =>
  sf_ret ()
set_option maxRecDepth 20000 in
set_option maxHeartbeats 4000000 in
theorem ok_Program_copyFrom (p0 : Option Nat) (p1 : Option Nat) : sf_Ok ({ cls := "SplitFares$Program", name := "copyFrom", desc := "(LSplitFares$Program;)V" } : Jvm.MethodName) prog_7_method_3_code 2 none 1 [sf_rv p0, sf_rv p1] (jx_Program_copyFrom p0 p1) (fun _ => none) := by
  refine sf_Ok.of (env := [some (sf_rv p0), some (sf_rv p1)]) (plainFor_of_name (by decide)) [false, false] (fun G => ⟨pk_r, pk_r, trivial⟩) (Nat.le_of_ble_eq_true rfl) rfl (fun X => ?_)
  unfold jx_Program_copyFrom
  refine fp_aload_n (i := 1) (r := p1) dd_Program_copyFrom_0 rfl rfl (fr_pc (pc' := 1) rfl ?_)
  refine fr_gR cl_6 0 (by decide) rfl sw_247 dd_Program_copyFrom_1 (fun x1 => fr_pc (pc' := 4) rfl ?_)
  refine fp_iconst (v := (0 : Int32)) dd_Program_copyFrom_4 (by decide) (fr_pc (pc' := 5) rfl ?_)
  refine fp_aload_n (i := 0) (r := p0) dd_Program_copyFrom_5 rfl rfl (fr_pc (pc' := 6) rfl ?_)
  refine fr_gR cl_6 0 (by decide) rfl sw_247 dd_Program_copyFrom_6 (fun x2 => fr_pc (pc' := 9) rfl ?_)
  refine fp_iconst (v := (0 : Int32)) dd_Program_copyFrom_9 (by decide) (fr_pc (pc' := 10) rfl ?_)
  refine fp_sipush (v := (400 : Int32)) dd_Program_copyFrom_10 (by decide) (fr_pc (pc' := 13) rfl ?_)
  refine fr_cpI sw_730 sw_732 sw_731 sw_19 (Nat.le_of_ble_eq_true rfl) (Nat.le_of_ble_eq_true rfl) dd_Program_copyFrom_13 (fr_pc (pc' := 16) rfl ?_)
  refine fp_aload_n (i := 1) (r := p1) dd_Program_copyFrom_16 rfl rfl (fr_pc (pc' := 17) rfl ?_)
  refine fr_gR cl_6 1 (by decide) rfl sw_248 dd_Program_copyFrom_17 (fun x3 => fr_pc (pc' := 20) rfl ?_)
  refine fp_iconst (v := (0 : Int32)) dd_Program_copyFrom_20 (by decide) (fr_pc (pc' := 21) rfl ?_)
  refine fp_aload_n (i := 0) (r := p0) dd_Program_copyFrom_21 rfl rfl (fr_pc (pc' := 22) rfl ?_)
  refine fr_gR cl_6 1 (by decide) rfl sw_248 dd_Program_copyFrom_22 (fun x4 => fr_pc (pc' := 25) rfl ?_)
  refine fp_iconst (v := (0 : Int32)) dd_Program_copyFrom_25 (by decide) (fr_pc (pc' := 26) rfl ?_)
  refine fp_sipush (v := (400 : Int32)) dd_Program_copyFrom_26 (by decide) (fr_pc (pc' := 29) rfl ?_)
  refine fr_cpI sw_730 sw_732 sw_731 sw_19 (Nat.le_of_ble_eq_true rfl) (Nat.le_of_ble_eq_true rfl) dd_Program_copyFrom_29 (fr_pc (pc' := 32) rfl ?_)
  refine fp_aload_n (i := 1) (r := p1) dd_Program_copyFrom_32 rfl rfl (fr_pc (pc' := 33) rfl ?_)
  refine fr_gR cl_6 2 (by decide) rfl sw_249 dd_Program_copyFrom_33 (fun x5 => fr_pc (pc' := 36) rfl ?_)
  refine fp_iconst (v := (0 : Int32)) dd_Program_copyFrom_36 (by decide) (fr_pc (pc' := 37) rfl ?_)
  refine fp_aload_n (i := 0) (r := p0) dd_Program_copyFrom_37 rfl rfl (fr_pc (pc' := 38) rfl ?_)
  refine fr_gR cl_6 2 (by decide) rfl sw_249 dd_Program_copyFrom_38 (fun x6 => fr_pc (pc' := 41) rfl ?_)
  refine fp_iconst (v := (0 : Int32)) dd_Program_copyFrom_41 (by decide) (fr_pc (pc' := 42) rfl ?_)
  refine fp_aload_n (i := 0) (r := p0) dd_Program_copyFrom_42 rfl rfl (fr_pc (pc' := 43) rfl ?_)
  refine fr_gR cl_6 2 (by decide) rfl sw_249 dd_Program_copyFrom_43 (fun x7 => fr_pc (pc' := 46) rfl ?_)
  refine fr_len dd_Program_copyFrom_46 (fun x8 => fr_pc (pc' := 47) rfl ?_)
  refine fr_cpI sw_730 sw_732 sw_731 sw_19 (Nat.le_of_ble_eq_true rfl) (Nat.le_of_ble_eq_true rfl) dd_Program_copyFrom_47 (fr_pc (pc' := 50) rfl ?_)
  refine fp_aload_n (i := 0) (r := p0) dd_Program_copyFrom_50 rfl rfl (fr_pc (pc' := 51) rfl ?_)
  refine fp_aload_n (i := 1) (r := p1) dd_Program_copyFrom_51 rfl rfl (fr_pc (pc' := 52) rfl ?_)
  refine fr_gI cl_6 3 (by decide) rfl sw_250 dd_Program_copyFrom_52 (fun x9 => fr_pc (pc' := 55) rfl ?_)
  refine fr_pI cl_6 3 (by decide) rfl sw_250 rfl ⟨rfl, rfl⟩ dd_Program_copyFrom_55 (fr_pc (pc' := 58) rfl ?_)
  refine fp_aload_n (i := 0) (r := p0) dd_Program_copyFrom_58 rfl rfl (fr_pc (pc' := 59) rfl ?_)
  refine fp_aload_n (i := 1) (r := p1) dd_Program_copyFrom_59 rfl rfl (fr_pc (pc' := 60) rfl ?_)
  refine fr_gI cl_6 4 (by decide) rfl sw_251 dd_Program_copyFrom_60 (fun x10 => fr_pc (pc' := 63) rfl ?_)
  refine fr_pI cl_6 4 (by decide) rfl sw_251 rfl ⟨rfl, rfl⟩ dd_Program_copyFrom_63 (fr_pc (pc' := 66) rfl ?_)
  exact fr_vret rfl rfl dd_Program_copyFrom_66
