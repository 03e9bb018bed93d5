/-! Tape: its methods as plain functions, and that the bytecode runs them (printed by program). -/
theorem mt_Tape_init : sf_Mt ({ cls := "SplitFares$Tape", name := "<init>", desc := "()V" } : Jvm.MethodName) prog_9_method_1_code 1 none 0 := ⟨sw_224, sw_8, ⟨by decide, by decide, by decide +kernel⟩, by decide⟩
theorem dd_Tape_init_0 : decode prog_9_method_1_code 0 = .ok (.aload_n 0, 1) := by decide +kernel
theorem dd_Tape_init_1 : decode prog_9_method_1_code 1 = .ok (.invokespecial 3, 3) := by decide +kernel
theorem dd_Tape_init_4 : decode prog_9_method_1_code 4 = .ok (.aload_n 0, 1) := by decide +kernel
theorem dd_Tape_init_5 : decode prog_9_method_1_code 5 = .ok (.sipush 400, 3) := by decide +kernel
theorem dd_Tape_init_8 : decode prog_9_method_1_code 8 = .ok (.newarray .int, 2) := by decide +kernel
theorem dd_Tape_init_10 : decode prog_9_method_1_code 10 = .ok (.putfield 9, 3) := by decide +kernel
theorem dd_Tape_init_13 : decode prog_9_method_1_code 13 = .ok (.aload_n 0, 1) := by decide +kernel
theorem dd_Tape_init_14 : decode prog_9_method_1_code 14 = .ok (.iconst 0, 1) := by decide +kernel
theorem dd_Tape_init_15 : decode prog_9_method_1_code 15 = .ok (.putfield 15, 3) := by decide +kernel
theorem dd_Tape_init_18 : decode prog_9_method_1_code 18 = .ok (.return_, 1) := by decide +kernel
def jx_Tape_init (p0 : Option Nat) : sf_M (Unit) :=
  sf_bnd (sf_rc 8 p0 (sf_ret ())) fun _ =>
  sf_bnd (sf_newA 0 (400 : Int32)) fun x1 =>
  sf_bnd (sf_pR 8 0 p0 x1) fun _ =>
  sf_bnd (sf_pI 8 1 p0 (0 : Int32)) fun _ =>
  sf_ret ()
set_option maxRecDepth 20000 in
set_option maxHeartbeats 4000000 in
theorem ok_Tape_init (p0 : Option Nat) : sf_Ok ({ cls := "SplitFares$Tape", name := "<init>", desc := "()V" } : Jvm.MethodName) prog_9_method_1_code 1 none 1 [sf_rv p0] (jx_Tape_init p0) (fun _ => none) := by
  refine sf_Ok.of (env := [some (sf_rv p0)]) (plainFor_of_name (by decide)) [false] (fun G => ⟨pk_r, trivial⟩) (Nat.le_of_ble_eq_true rfl) rfl (fun X => ?_)
  unfold jx_Tape_init
  refine fp_aload_n (i := 0) (r := p0) dd_Tape_init_0 rfl rfl (fr_pc (pc' := 1) rfl ?_)
  refine fr_obj (ci := 8) (by decide) sw_225 sw_27 sw_28 (Nat.le_of_ble_eq_true rfl) (Nat.le_of_ble_eq_true rfl) dd_Tape_init_1 (fr_pc (pc' := 4) rfl ?_)
  refine fp_aload_n (i := 0) (r := p0) dd_Tape_init_4 rfl rfl (fr_pc (pc' := 5) rfl ?_)
  refine fp_sipush (v := (400 : Int32)) dd_Tape_init_5 (by decide) (fr_pc (pc' := 8) rfl ?_)
  refine fr_newI dd_Tape_init_8 (fun x1 => fr_pc (pc' := 10) rfl ?_)
  refine fr_pRg cl_8 0 (by decide) rfl sw_226 (Or.inr ⟨rfl, rfl, rfl⟩) (Or.inr ⟨_, rfl⟩) dd_Tape_init_10 (fr_pc (pc' := 13) rfl ?_)
  refine fp_aload_n (i := 0) (r := p0) dd_Tape_init_13 rfl rfl (fr_pc (pc' := 14) rfl ?_)
  refine fp_iconst (v := (0 : Int32)) dd_Tape_init_14 (by decide) (fr_pc (pc' := 15) rfl ?_)
  refine fr_pI cl_8 1 (by decide) rfl sw_227 rfl ⟨rfl, rfl⟩ dd_Tape_init_15 (fr_pc (pc' := 18) rfl ?_)
  exact fr_vret rfl rfl dd_Tape_init_18
theorem mt_Tape_put : sf_Mt ({ cls := "SplitFares$Tape", name := "put", desc := "(I)V" } : Jvm.MethodName) prog_9_method_2_code 3 none 1 := ⟨sw_501, sw_8, ⟨by decide, by decide, by decide +kernel⟩, by decide⟩
theorem dd_Tape_put_0 : decode prog_9_method_2_code 0 = .ok (.bipush 24, 2) := by decide +kernel
theorem dd_Tape_put_2 : decode prog_9_method_2_code 2 = .ok (.istore_n 2, 1) := by decide +kernel
theorem dd_Tape_put_3 : decode prog_9_method_2_code 3 = .ok (.iload_n 2, 1) := by decide +kernel
theorem dd_Tape_put_4 : decode prog_9_method_2_code 4 = .ok (.ifCond .lt 52, 3) := by decide +kernel
theorem dd_Tape_put_7 : decode prog_9_method_2_code 7 = .ok (.aload_n 0, 1) := by decide +kernel
theorem dd_Tape_put_8 : decode prog_9_method_2_code 8 = .ok (.getfield 15, 3) := by decide +kernel
theorem dd_Tape_put_11 : decode prog_9_method_2_code 11 = .ok (.ifCond .lt 45, 3) := by decide +kernel
theorem dd_Tape_put_14 : decode prog_9_method_2_code 14 = .ok (.aload_n 0, 1) := by decide +kernel
theorem dd_Tape_put_15 : decode prog_9_method_2_code 15 = .ok (.getfield 15, 3) := by decide +kernel
theorem dd_Tape_put_18 : decode prog_9_method_2_code 18 = .ok (.sipush 400, 3) := by decide +kernel
theorem dd_Tape_put_21 : decode prog_9_method_2_code 21 = .ok (.if_icmp .ge 35, 3) := by decide +kernel
theorem dd_Tape_put_24 : decode prog_9_method_2_code 24 = .ok (.aload_n 0, 1) := by decide +kernel
theorem dd_Tape_put_25 : decode prog_9_method_2_code 25 = .ok (.getfield 9, 3) := by decide +kernel
theorem dd_Tape_put_28 : decode prog_9_method_2_code 28 = .ok (.aload_n 0, 1) := by decide +kernel
theorem dd_Tape_put_29 : decode prog_9_method_2_code 29 = .ok (.getfield 15, 3) := by decide +kernel
theorem dd_Tape_put_32 : decode prog_9_method_2_code 32 = .ok (.iload_n 1, 1) := by decide +kernel
theorem dd_Tape_put_33 : decode prog_9_method_2_code 33 = .ok (.iload_n 2, 1) := by decide +kernel
theorem dd_Tape_put_34 : decode prog_9_method_2_code 34 = .ok (.iushr, 1) := by decide +kernel
theorem dd_Tape_put_35 : decode prog_9_method_2_code 35 = .ok (.sipush 255, 3) := by decide +kernel
theorem dd_Tape_put_38 : decode prog_9_method_2_code 38 = .ok (.iand, 1) := by decide +kernel
theorem dd_Tape_put_39 : decode prog_9_method_2_code 39 = .ok (.iastore, 1) := by decide +kernel
theorem dd_Tape_put_40 : decode prog_9_method_2_code 40 = .ok (.aload_n 0, 1) := by decide +kernel
theorem dd_Tape_put_41 : decode prog_9_method_2_code 41 = .ok (.dup, 1) := by decide +kernel
theorem dd_Tape_put_42 : decode prog_9_method_2_code 42 = .ok (.getfield 15, 3) := by decide +kernel
theorem dd_Tape_put_45 : decode prog_9_method_2_code 45 = .ok (.iconst 1, 1) := by decide +kernel
theorem dd_Tape_put_46 : decode prog_9_method_2_code 46 = .ok (.iadd, 1) := by decide +kernel
theorem dd_Tape_put_47 : decode prog_9_method_2_code 47 = .ok (.putfield 15, 3) := by decide +kernel
theorem dd_Tape_put_50 : decode prog_9_method_2_code 50 = .ok (.iinc 2 (-8), 3) := by decide +kernel
theorem dd_Tape_put_53 : decode prog_9_method_2_code 53 = .ok (.goto (-50), 3) := by decide +kernel
theorem dd_Tape_put_56 : decode prog_9_method_2_code 56 = .ok (.return_, 1) := by decide +kernel
def jx_Tape_put (p0 : Option Nat) (p1 : Int32) : sf_M (Unit) :=
  sf_bnd (sf_loop (β := (Int32)) (γ := (Unit)) (fun b1 =>
  if b1 < 0 then (
  sf_ret (.inr ())
  ) else (
  sf_bnd (sf_gI 8 1 p0) fun x3 =>
  if x3 < 0 then (
  sf_ret (.inr ())
  ) else (
  sf_bnd (sf_gI 8 1 p0) fun x5 =>
  if (400 : Int32) ≤ x5 then (
  sf_ret (.inr ())
  ) else (
  sf_bnd (sf_gR 8 0 p0) fun x7 =>
  sf_bnd (sf_gI 8 1 p0) fun x8 =>
  sf_bnd (sf_sI 0 x7 x8 (((p1.toUInt32 >>> (b1.toUInt32 &&& Int32.toUInt32 31)).toInt32) &&& (255 : Int32))) fun _ =>
  sf_bnd (sf_gI 8 1 p0) fun x9 =>
  sf_bnd (sf_pI 8 1 p0 (x9 + (1 : Int32))) fun _ =>
  sf_bnd (sf_ret (b1 + (-8 : Int32))) fun y10 =>
  sf_ret (.inl y10)
  )
  )
  )
  ) sf_fuel (24 : Int32)) (fun e11 =>
  sf_ret ()
  )
set_option maxRecDepth 20000 in
set_option maxHeartbeats 4000000 in
theorem ok_Tape_put (p0 : Option Nat) (p1 : Int32) : sf_Ok ({ cls := "SplitFares$Tape", name := "put", desc := "(I)V" } : Jvm.MethodName) prog_9_method_2_code 3 none 0 [sf_rv p0, .int p1] (jx_Tape_put p0 p1) (fun _ => none) := by
  refine sf_Ok.of (env := [some (sf_rv p0), some (.int p1), none]) (plainFor_of_name (by decide)) [false, false] (fun G => ⟨pk_r, pk_i, trivial⟩) (Nat.le_of_ble_eq_true rfl) rfl (fun X => ?_)
  unfold jx_Tape_put
  refine fp_bipush (v := (24 : Int32)) dd_Tape_put_0 (by decide) (fr_pc (pc' := 2) rfl ?_)
  refine fp_istore_n (i := 2) dd_Tape_put_2 rfl (Nat.le_of_ble_eq_true rfl) (fun _ => c1_i rfl) (fr_to (pc' := 3) (env' := [some (sf_rv p0), some (.int p1), some (.int (24 : Int32))]) (stk' := []) rfl rfl rfl ?_)
  refine fr_to (pc' := 3) (env' := [some (sf_rv p0), some (.int p1), some (.int (24 : Int32))]) (stk' := []) rfl rfl rfl ?_
  refine fr_bnd (l1 := (fun (e11 : (Unit)) => sf_p 56 [some (sf_rv p0), some (.int p1), none] [])) (fr_loop (Lb := (fun (b1 : (Int32)) => sf_p 3 [some (sf_rv p0), some (.int p1), some (.int b1)] [])) (fun b1 => ?_) _ _) (fun e11 => ?_)
  · refine fp_iload_n (i := 2) (x := b1) dd_Tape_put_3 rfl rfl (fr_pc (pc' := 4) rfl ?_)
    refine fr_if_lt (tgt := 56) dd_Tape_put_4 rfl (fun _ => ?_) (fun _ => ?_)
    · refine fr_wk [true, true, false] ?_
      exact fr_ret rfl
    · refine fr_pc (pc' := 7) rfl ?_
      refine fp_aload_n (i := 0) (r := p0) dd_Tape_put_7 rfl rfl (fr_pc (pc' := 8) rfl ?_)
      refine fr_gI cl_8 1 (by decide) rfl sw_227 dd_Tape_put_8 (fun x3 => fr_pc (pc' := 11) rfl ?_)
      refine fr_if_lt (tgt := 56) dd_Tape_put_11 rfl (fun _ => ?_) (fun _ => ?_)
      · refine fr_wk [true, true, false] ?_
        exact fr_ret rfl
      · refine fr_pc (pc' := 14) rfl ?_
        refine fp_aload_n (i := 0) (r := p0) dd_Tape_put_14 rfl rfl (fr_pc (pc' := 15) rfl ?_)
        refine fr_gI cl_8 1 (by decide) rfl sw_227 dd_Tape_put_15 (fun x5 => fr_pc (pc' := 18) rfl ?_)
        refine fp_sipush (v := (400 : Int32)) dd_Tape_put_18 (by decide) (fr_pc (pc' := 21) rfl ?_)
        refine fr_icmp_ge (tgt := 56) dd_Tape_put_21 rfl (fun _ => ?_) (fun _ => ?_)
        · refine fr_wk [true, true, false] ?_
          exact fr_ret rfl
        · refine fr_pc (pc' := 24) rfl ?_
          refine fp_aload_n (i := 0) (r := p0) dd_Tape_put_24 rfl rfl (fr_pc (pc' := 25) rfl ?_)
          refine fr_gR cl_8 0 (by decide) rfl sw_226 dd_Tape_put_25 (fun x7 => fr_pc (pc' := 28) rfl ?_)
          refine fp_aload_n (i := 0) (r := p0) dd_Tape_put_28 rfl rfl (fr_pc (pc' := 29) rfl ?_)
          refine fr_gI cl_8 1 (by decide) rfl sw_227 dd_Tape_put_29 (fun x8 => fr_pc (pc' := 32) rfl ?_)
          refine fp_iload_n (i := 1) (x := p1) dd_Tape_put_32 rfl rfl (fr_pc (pc' := 33) rfl ?_)
          refine fp_iload_n (i := 2) (x := b1) dd_Tape_put_33 rfl rfl (fr_pc (pc' := 34) rfl ?_)
          refine fp_iushr dd_Tape_put_34 (fr_pc (pc' := 35) rfl ?_)
          refine fp_sipush (v := (255 : Int32)) dd_Tape_put_35 (by decide) (fr_pc (pc' := 38) rfl ?_)
          refine fp_iand dd_Tape_put_38 (fr_pc (pc' := 39) rfl ?_)
          refine fr_sI0 dd_Tape_put_39 (fr_pc (pc' := 40) rfl ?_)
          refine fp_aload_n (i := 0) (r := p0) dd_Tape_put_40 rfl rfl (fr_pc (pc' := 41) rfl ?_)
          refine fp_dup_r dd_Tape_put_41 (fr_pc (pc' := 42) rfl ?_)
          refine fr_gI cl_8 1 (by decide) rfl sw_227 dd_Tape_put_42 (fun x9 => fr_pc (pc' := 45) rfl ?_)
          refine fp_iconst (v := (1 : Int32)) dd_Tape_put_45 (by decide) (fr_pc (pc' := 46) rfl ?_)
          refine fp_iadd dd_Tape_put_46 (fr_pc (pc' := 47) rfl ?_)
          refine fr_pI cl_8 1 (by decide) rfl sw_227 rfl ⟨rfl, rfl⟩ dd_Tape_put_47 (fr_pc (pc' := 50) rfl ?_)
          refine fr_niinc (i := 2) (x := b1) (w := (-8 : Int32)) dd_Tape_put_50 rfl (by decide) (Nat.le_of_ble_eq_true rfl) (fun _ => c1_i rfl) (fun y10 => fr_to (pc' := 53) (env' := [some (sf_rv p0), some (.int p1), some (.int y10)]) (stk' := []) rfl rfl rfl ?_)
          refine fp_goto (tgt := 3) dd_Tape_put_53 rfl ?_
          exact fr_ret rfl
  · exact fr_vret rfl rfl dd_Tape_put_56
theorem mt_Tape_at : sf_Mt ({ cls := "SplitFares$Tape", name := "at", desc := "(I)I" } : Jvm.MethodName) prog_9_method_3_code 2 (some .int) 1 := ⟨sw_513, sw_8, ⟨by decide, by decide, by decide +kernel⟩, by decide⟩
theorem dd_Tape_at_0 : decode prog_9_method_3_code 0 = .ok (.iload_n 1, 1) := by decide +kernel
theorem dd_Tape_at_1 : decode prog_9_method_3_code 1 = .ok (.ifCond .lt 27, 3) := by decide +kernel
theorem dd_Tape_at_4 : decode prog_9_method_3_code 4 = .ok (.iload_n 1, 1) := by decide +kernel
theorem dd_Tape_at_5 : decode prog_9_method_3_code 5 = .ok (.aload_n 0, 1) := by decide +kernel
theorem dd_Tape_at_6 : decode prog_9_method_3_code 6 = .ok (.getfield 15, 3) := by decide +kernel
theorem dd_Tape_at_9 : decode prog_9_method_3_code 9 = .ok (.if_icmp .ge 19, 3) := by decide +kernel
theorem dd_Tape_at_12 : decode prog_9_method_3_code 12 = .ok (.iload_n 1, 1) := by decide +kernel
theorem dd_Tape_at_13 : decode prog_9_method_3_code 13 = .ok (.sipush 400, 3) := by decide +kernel
theorem dd_Tape_at_16 : decode prog_9_method_3_code 16 = .ok (.if_icmp .ge 12, 3) := by decide +kernel
theorem dd_Tape_at_19 : decode prog_9_method_3_code 19 = .ok (.aload_n 0, 1) := by decide +kernel
theorem dd_Tape_at_20 : decode prog_9_method_3_code 20 = .ok (.getfield 9, 3) := by decide +kernel
theorem dd_Tape_at_23 : decode prog_9_method_3_code 23 = .ok (.iload_n 1, 1) := by decide +kernel
theorem dd_Tape_at_24 : decode prog_9_method_3_code 24 = .ok (.iaload, 1) := by decide +kernel
theorem dd_Tape_at_25 : decode prog_9_method_3_code 25 = .ok (.goto 4, 3) := by decide +kernel
theorem dd_Tape_at_28 : decode prog_9_method_3_code 28 = .ok (.iconst 0, 1) := by decide +kernel
theorem dd_Tape_at_29 : decode prog_9_method_3_code 29 = .ok (.ireturn, 1) := by decide +kernel
def jx_Tape_at (p0 : Option Nat) (p1 : Int32) : sf_M (Int32) :=
  if p1 < 0 then (
  sf_ret (0 : Int32)
  ) else (
  sf_bnd (sf_gI 8 1 p0) fun x2 =>
  if x2 ≤ p1 then (
  sf_ret (0 : Int32)
  ) else (
  if (400 : Int32) ≤ p1 then (
  sf_ret (0 : Int32)
  ) else (
  sf_bnd (sf_gR 8 0 p0) fun x5 =>
  sf_bnd (sf_aI 0 x5 p1) fun x6 =>
  sf_ret x6
  )
  )
  )
set_option maxRecDepth 20000 in
set_option maxHeartbeats 4000000 in
theorem ok_Tape_at (p0 : Option Nat) (p1 : Int32) : sf_Ok ({ cls := "SplitFares$Tape", name := "at", desc := "(I)I" } : Jvm.MethodName) prog_9_method_3_code 2 (some .int) 0 [sf_rv p0, .int p1] (jx_Tape_at p0 p1) (fun r => some (.int r)) := by
  refine sf_Ok.of (env := [some (sf_rv p0), some (.int p1)]) (plainFor_of_name (by decide)) [false, false] (fun G => ⟨pk_r, pk_i, trivial⟩) (Nat.le_of_ble_eq_true rfl) rfl (fun X => ?_)
  unfold jx_Tape_at
  refine fp_iload_n (i := 1) (x := p1) dd_Tape_at_0 rfl rfl (fr_pc (pc' := 1) rfl ?_)
  refine fr_if_lt (tgt := 28) dd_Tape_at_1 rfl (fun _ => ?_) (fun _ => ?_)
  · refine fp_iconst (v := (0 : Int32)) dd_Tape_at_28 (by decide) (fr_pc (pc' := 29) rfl ?_)
    exact fr_iret (v := (0 : Int32)) rfl rfl dd_Tape_at_29
  · refine fr_pc (pc' := 4) rfl ?_
    refine fp_iload_n (i := 1) (x := p1) dd_Tape_at_4 rfl rfl (fr_pc (pc' := 5) rfl ?_)
    refine fp_aload_n (i := 0) (r := p0) dd_Tape_at_5 rfl rfl (fr_pc (pc' := 6) rfl ?_)
    refine fr_gI cl_8 1 (by decide) rfl sw_227 dd_Tape_at_6 (fun x2 => fr_pc (pc' := 9) rfl ?_)
    refine fr_icmp_ge (tgt := 28) dd_Tape_at_9 rfl (fun _ => ?_) (fun _ => ?_)
    · refine fp_iconst (v := (0 : Int32)) dd_Tape_at_28 (by decide) (fr_pc (pc' := 29) rfl ?_)
      exact fr_iret (v := (0 : Int32)) rfl rfl dd_Tape_at_29
    · refine fr_pc (pc' := 12) rfl ?_
      refine fp_iload_n (i := 1) (x := p1) dd_Tape_at_12 rfl rfl (fr_pc (pc' := 13) rfl ?_)
      refine fp_sipush (v := (400 : Int32)) dd_Tape_at_13 (by decide) (fr_pc (pc' := 16) rfl ?_)
      refine fr_icmp_ge (tgt := 28) dd_Tape_at_16 rfl (fun _ => ?_) (fun _ => ?_)
      · refine fp_iconst (v := (0 : Int32)) dd_Tape_at_28 (by decide) (fr_pc (pc' := 29) rfl ?_)
        exact fr_iret (v := (0 : Int32)) rfl rfl dd_Tape_at_29
      · refine fr_pc (pc' := 19) rfl ?_
        refine fp_aload_n (i := 0) (r := p0) dd_Tape_at_19 rfl rfl (fr_pc (pc' := 20) rfl ?_)
        refine fr_gR cl_8 0 (by decide) rfl sw_226 dd_Tape_at_20 (fun x5 => fr_pc (pc' := 23) rfl ?_)
        refine fp_iload_n (i := 1) (x := p1) dd_Tape_at_23 rfl rfl (fr_pc (pc' := 24) rfl ?_)
        refine fr_aI0 dd_Tape_at_24 (fun x6 => fr_pc (pc' := 25) rfl ?_)
        refine fp_goto (tgt := 29) dd_Tape_at_25 rfl ?_
        exact fr_iret (v := x6) rfl rfl dd_Tape_at_29
