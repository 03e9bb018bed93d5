/-! Log: its methods as plain functions, and that the bytecode runs them (printed by program). -/
theorem mt_Log_init : sf_Mt ({ cls := "SplitFares$Log", name := "<init>", desc := "()V" } : Jvm.MethodName) prog_3_method_1_code 2 none 0 := ⟨sw_168, sw_7, ⟨by decide, by decide, by decide +kernel⟩, by decide⟩
theorem dd_Log_init_0 : decode prog_3_method_1_code 0 = .ok (.aload_n 0, 1) := by decide +kernel
theorem dd_Log_init_1 : decode prog_3_method_1_code 1 = .ok (.invokespecial 3, 3) := by decide +kernel
theorem dd_Log_init_4 : decode prog_3_method_1_code 4 = .ok (.aload_n 0, 1) := by decide +kernel
theorem dd_Log_init_5 : decode prog_3_method_1_code 5 = .ok (.bipush 16, 2) := by decide +kernel
theorem dd_Log_init_7 : decode prog_3_method_1_code 7 = .ok (.anewarray 9, 3) := by decide +kernel
theorem dd_Log_init_10 : decode prog_3_method_1_code 10 = .ok (.putfield 11, 3) := by decide +kernel
theorem dd_Log_init_13 : decode prog_3_method_1_code 13 = .ok (.aload_n 0, 1) := by decide +kernel
theorem dd_Log_init_14 : decode prog_3_method_1_code 14 = .ok (.bipush 16, 2) := by decide +kernel
theorem dd_Log_init_16 : decode prog_3_method_1_code 16 = .ok (.newarray .int, 2) := by decide +kernel
theorem dd_Log_init_18 : decode prog_3_method_1_code 18 = .ok (.putfield 17, 3) := by decide +kernel
theorem dd_Log_init_21 : decode prog_3_method_1_code 21 = .ok (.aload_n 0, 1) := by decide +kernel
theorem dd_Log_init_22 : decode prog_3_method_1_code 22 = .ok (.iconst 0, 1) := by decide +kernel
theorem dd_Log_init_23 : decode prog_3_method_1_code 23 = .ok (.putfield 21, 3) := by decide +kernel
theorem dd_Log_init_26 : decode prog_3_method_1_code 26 = .ok (.aload_n 0, 1) := by decide +kernel
theorem dd_Log_init_27 : decode prog_3_method_1_code 27 = .ok (.iconst 0, 1) := by decide +kernel
theorem dd_Log_init_28 : decode prog_3_method_1_code 28 = .ok (.putfield 25, 3) := by decide +kernel
theorem dd_Log_init_31 : decode prog_3_method_1_code 31 = .ok (.iconst 0, 1) := by decide +kernel
theorem dd_Log_init_32 : decode prog_3_method_1_code 32 = .ok (.istore_n 1, 1) := by decide +kernel
theorem dd_Log_init_33 : decode prog_3_method_1_code 33 = .ok (.iload_n 1, 1) := by decide +kernel
theorem dd_Log_init_34 : decode prog_3_method_1_code 34 = .ok (.bipush 16, 2) := by decide +kernel
theorem dd_Log_init_36 : decode prog_3_method_1_code 36 = .ok (.if_icmp .ge 22, 3) := by decide +kernel
theorem dd_Log_init_39 : decode prog_3_method_1_code 39 = .ok (.aload_n 0, 1) := by decide +kernel
theorem dd_Log_init_40 : decode prog_3_method_1_code 40 = .ok (.getfield 11, 3) := by decide +kernel
theorem dd_Log_init_43 : decode prog_3_method_1_code 43 = .ok (.iload_n 1, 1) := by decide +kernel
theorem dd_Log_init_44 : decode prog_3_method_1_code 44 = .ok (.new 9, 3) := by decide +kernel
theorem dd_Log_init_47 : decode prog_3_method_1_code 47 = .ok (.dup, 1) := by decide +kernel
theorem dd_Log_init_48 : decode prog_3_method_1_code 48 = .ok (.invokespecial 28, 3) := by decide +kernel
theorem dd_Log_init_51 : decode prog_3_method_1_code 51 = .ok (.aastore, 1) := by decide +kernel
theorem dd_Log_init_52 : decode prog_3_method_1_code 52 = .ok (.iinc 1 1, 3) := by decide +kernel
theorem dd_Log_init_55 : decode prog_3_method_1_code 55 = .ok (.goto (-22), 3) := by decide +kernel
theorem dd_Log_init_58 : decode prog_3_method_1_code 58 = .ok (.return_, 1) := by decide +kernel
def jx_Log_init (p0 : Option Nat) : sf_M (Unit) :=
  sf_bnd (sf_rc 2 p0 (sf_ret ())) fun _ =>
  sf_bnd (sf_newA 4 (16 : Int32)) fun x1 =>
  sf_bnd (sf_pR 2 0 p0 x1) fun _ =>
  sf_bnd (sf_newA 0 (16 : Int32)) fun x2 =>
  sf_bnd (sf_pR 2 1 p0 x2) fun _ =>
  sf_bnd (sf_pI 2 2 p0 (0 : Int32)) fun _ =>
  sf_bnd (sf_pI 2 3 p0 (0 : Int32)) fun _ =>
  sf_bnd (sf_loop (β := (Int32)) (γ := (Unit)) (fun b3 =>
  if (16 : Int32) ≤ b3 then (
  sf_ret (.inr ())
  ) else (
  sf_bnd (sf_gR 2 0 p0) fun x5 =>
  sf_bnd (sf_new 5 4) fun x6 =>
  sf_bnd (sf_rc 5 x6 (jx_Pocket_init x6)) fun _ =>
  sf_bnd (sf_sR 4 5 x5 b3 x6) fun _ =>
  sf_bnd (sf_ret (b3 + (1 : Int32))) fun y8 =>
  sf_ret (.inl y8)
  )
  ) sf_fuel (0 : Int32)) (fun e9 =>
  sf_ret ()
  )
set_option maxRecDepth 20000 in
set_option maxHeartbeats 4000000 in
theorem ok_Log_init (p0 : Option Nat) : sf_Ok ({ cls := "SplitFares$Log", name := "<init>", desc := "()V" } : Jvm.MethodName) prog_3_method_1_code 2 none 2 [sf_rv p0] (jx_Log_init p0) (fun _ => none) := by
  refine sf_Ok.of (env := [some (sf_rv p0), none]) (plainFor_of_name (by decide)) [false] (fun G => ⟨pk_r, trivial⟩) (Nat.le_of_ble_eq_true rfl) rfl (fun X => ?_)
  unfold jx_Log_init
  refine fp_aload_n (i := 0) (r := p0) dd_Log_init_0 rfl rfl (fr_pc (pc' := 1) rfl ?_)
  refine fr_obj (ci := 2) (by decide) sw_169 sw_27 sw_28 (Nat.le_of_ble_eq_true rfl) (Nat.le_of_ble_eq_true rfl) dd_Log_init_1 (fr_pc (pc' := 4) rfl ?_)
  refine fp_aload_n (i := 0) (r := p0) dd_Log_init_4 rfl rfl (fr_pc (pc' := 5) rfl ?_)
  refine fp_bipush (v := (16 : Int32)) dd_Log_init_5 (by decide) (fr_pc (pc' := 7) rfl ?_)
  refine fr_newR sw_170 (fun G U h => h.2.2.1.1) ar_4 (by decide) (by decide) dd_Log_init_7 (fun x1 => fr_pc (pc' := 10) rfl ?_)
  refine fr_pRg cl_2 0 (by decide) rfl sw_173 (Or.inr ⟨rfl, rfl, rfl⟩) (Or.inr ⟨_, rfl⟩) dd_Log_init_10 (fr_pc (pc' := 13) rfl ?_)
  refine fp_aload_n (i := 0) (r := p0) dd_Log_init_13 rfl rfl (fr_pc (pc' := 14) rfl ?_)
  refine fp_bipush (v := (16 : Int32)) dd_Log_init_14 (by decide) (fr_pc (pc' := 16) rfl ?_)
  refine fr_newI dd_Log_init_16 (fun x2 => fr_pc (pc' := 18) rfl ?_)
  refine fr_pRg cl_2 1 (by decide) rfl sw_174 (Or.inr ⟨rfl, rfl, rfl⟩) (Or.inr ⟨_, rfl⟩) dd_Log_init_18 (fr_pc (pc' := 21) rfl ?_)
  refine fp_aload_n (i := 0) (r := p0) dd_Log_init_21 rfl rfl (fr_pc (pc' := 22) rfl ?_)
  refine fp_iconst (v := (0 : Int32)) dd_Log_init_22 (by decide) (fr_pc (pc' := 23) rfl ?_)
  refine fr_pI cl_2 2 (by decide) rfl sw_175 rfl ⟨rfl, rfl⟩ dd_Log_init_23 (fr_pc (pc' := 26) rfl ?_)
  refine fp_aload_n (i := 0) (r := p0) dd_Log_init_26 rfl rfl (fr_pc (pc' := 27) rfl ?_)
  refine fp_iconst (v := (0 : Int32)) dd_Log_init_27 (by decide) (fr_pc (pc' := 28) rfl ?_)
  refine fr_pI cl_2 3 (by decide) rfl sw_176 rfl ⟨rfl, rfl⟩ dd_Log_init_28 (fr_pc (pc' := 31) rfl ?_)
  refine fp_iconst (v := (0 : Int32)) dd_Log_init_31 (by decide) (fr_pc (pc' := 32) rfl ?_)
  refine fp_istore_n (i := 1) dd_Log_init_32 rfl (Nat.le_of_ble_eq_true rfl) (fun _ => c1_r rfl) (fr_to (pc' := 33) (env' := [some (sf_rv p0), some (.int (0 : Int32))]) (stk' := []) rfl rfl rfl ?_)
  refine fr_to (pc' := 33) (env' := [some (sf_rv p0), some (.int (0 : Int32))]) (stk' := []) rfl rfl rfl ?_
  refine fr_bnd (l1 := (fun (e9 : (Unit)) => sf_p 58 [some (sf_rv p0), none] [])) (fr_loop (Lb := (fun (b3 : (Int32)) => sf_p 33 [some (sf_rv p0), some (.int b3)] [])) (fun b3 => ?_) _ _) (fun e9 => ?_)
  · refine fp_iload_n (i := 1) (x := b3) dd_Log_init_33 rfl rfl (fr_pc (pc' := 34) rfl ?_)
    refine fp_bipush (v := (16 : Int32)) dd_Log_init_34 (by decide) (fr_pc (pc' := 36) rfl ?_)
    refine fr_icmp_ge (tgt := 58) dd_Log_init_36 rfl (fun _ => ?_) (fun _ => ?_)
    · refine fr_wk [true, false] ?_
      exact fr_ret rfl
    · refine fr_pc (pc' := 39) rfl ?_
      refine fp_aload_n (i := 0) (r := p0) dd_Log_init_39 rfl rfl (fr_pc (pc' := 40) rfl ?_)
      refine fr_gR cl_2 0 (by decide) rfl sw_173 dd_Log_init_40 (fun x5 => fr_pc (pc' := 43) rfl ?_)
      refine fp_iload_n (i := 1) (x := b3) dd_Log_init_43 rfl rfl (fr_pc (pc' := 44) rfl ?_)
      refine fr_new cl_5 sw_170 sw_42 sw_4 dd_Log_init_44 (fun x6 => fr_pc (pc' := 47) rfl ?_)
      refine fp_dup_r dd_Log_init_47 (fr_pc (pc' := 48) rfl ?_)
      refine fr_callIN (stk := [sf_rv x6, .int b3, sf_rv x5]) (As := []) (ci := 5) (by decide) rfl (ok_Pocket_init x6) mt_Pocket_init rfl rfl sn_172 sw_44 (by decide) (Nat.le_of_ble_eq_true rfl) dd_Log_init_48 (fun u7 => fr_to (pc' := 51) (env' := [some (sf_rv p0), some (.int b3)]) (stk' := [sf_rv x6, .int b3, sf_rv x5]) rfl rfl rfl ?_)
      refine fr_sR cl_5 (by decide) (by decide) ar_4 dd_Log_init_51 (fr_pc (pc' := 52) rfl ?_)
      refine fr_niinc (i := 1) (x := b3) (w := (1 : Int32)) dd_Log_init_52 rfl (by decide) (Nat.le_of_ble_eq_true rfl) (fun _ => c1_r rfl) (fun y8 => fr_to (pc' := 55) (env' := [some (sf_rv p0), some (.int y8)]) (stk' := []) rfl rfl rfl ?_)
      refine fp_goto (tgt := 33) dd_Log_init_55 rfl ?_
      exact fr_ret rfl
  · exact fr_vret rfl rfl dd_Log_init_58
theorem mt_Log_clear : sf_Mt ({ cls := "SplitFares$Log", name := "clear", desc := "()V" } : Jvm.MethodName) prog_3_method_2_code 1 none 0 := ⟨sw_493, sw_7, ⟨by decide, by decide, by decide +kernel⟩, by decide⟩
theorem dd_Log_clear_0 : decode prog_3_method_2_code 0 = .ok (.aload_n 0, 1) := by decide +kernel
theorem dd_Log_clear_1 : decode prog_3_method_2_code 1 = .ok (.iconst 0, 1) := by decide +kernel
theorem dd_Log_clear_2 : decode prog_3_method_2_code 2 = .ok (.putfield 21, 3) := by decide +kernel
theorem dd_Log_clear_5 : decode prog_3_method_2_code 5 = .ok (.aload_n 0, 1) := by decide +kernel
theorem dd_Log_clear_6 : decode prog_3_method_2_code 6 = .ok (.iconst 0, 1) := by decide +kernel
theorem dd_Log_clear_7 : decode prog_3_method_2_code 7 = .ok (.putfield 25, 3) := by decide +kernel
theorem dd_Log_clear_10 : decode prog_3_method_2_code 10 = .ok (.return_, 1) := by decide +kernel
def jx_Log_clear (p0 : Option Nat) : sf_M (Unit) :=
  sf_bnd (sf_pI 2 2 p0 (0 : Int32)) fun _ =>
  sf_bnd (sf_pI 2 3 p0 (0 : Int32)) fun _ =>
  sf_ret ()
set_option maxRecDepth 20000 in
set_option maxHeartbeats 4000000 in
theorem ok_Log_clear (p0 : Option Nat) : sf_Ok ({ cls := "SplitFares$Log", name := "clear", desc := "()V" } : Jvm.MethodName) prog_3_method_2_code 1 none 0 [sf_rv p0] (jx_Log_clear p0) (fun _ => none) := by
  refine sf_Ok.of (env := [some (sf_rv p0)]) (plainFor_of_name (by decide)) [false] (fun G => ⟨pk_r, trivial⟩) (Nat.le_of_ble_eq_true rfl) rfl (fun X => ?_)
  unfold jx_Log_clear
  refine fp_aload_n (i := 0) (r := p0) dd_Log_clear_0 rfl rfl (fr_pc (pc' := 1) rfl ?_)
  refine fp_iconst (v := (0 : Int32)) dd_Log_clear_1 (by decide) (fr_pc (pc' := 2) rfl ?_)
  refine fr_pI cl_2 2 (by decide) rfl sw_175 rfl ⟨rfl, rfl⟩ dd_Log_clear_2 (fr_pc (pc' := 5) rfl ?_)
  refine fp_aload_n (i := 0) (r := p0) dd_Log_clear_5 rfl rfl (fr_pc (pc' := 6) rfl ?_)
  refine fp_iconst (v := (0 : Int32)) dd_Log_clear_6 (by decide) (fr_pc (pc' := 7) rfl ?_)
  refine fr_pI cl_2 3 (by decide) rfl sw_176 rfl ⟨rfl, rfl⟩ dd_Log_clear_7 (fr_pc (pc' := 10) rfl ?_)
  exact fr_vret rfl rfl dd_Log_clear_10
theorem mt_Log_copyFrom : sf_Mt ({ cls := "SplitFares$Log", name := "copyFrom", desc := "(LSplitFares$Log;)V" } : Jvm.MethodName) prog_3_method_5_code 5 none 1 := ⟨sw_754, sw_7, ⟨by decide, by decide, by decide +kernel⟩, by decide⟩
theorem dd_Log_copyFrom_0 : decode prog_3_method_5_code 0 = .ok (.iconst 0, 1) := by decide +kernel
theorem dd_Log_copyFrom_1 : decode prog_3_method_5_code 1 = .ok (.istore_n 2, 1) := by decide +kernel
theorem dd_Log_copyFrom_2 : decode prog_3_method_5_code 2 = .ok (.iload_n 2, 1) := by decide +kernel
theorem dd_Log_copyFrom_3 : decode prog_3_method_5_code 3 = .ok (.bipush 16, 2) := by decide +kernel
theorem dd_Log_copyFrom_5 : decode prog_3_method_5_code 5 = .ok (.if_icmp .ge 51, 3) := by decide +kernel
theorem dd_Log_copyFrom_8 : decode prog_3_method_5_code 8 = .ok (.aload_n 0, 1) := by decide +kernel
theorem dd_Log_copyFrom_9 : decode prog_3_method_5_code 9 = .ok (.getfield 11, 3) := by decide +kernel
theorem dd_Log_copyFrom_12 : decode prog_3_method_5_code 12 = .ok (.iload_n 2, 1) := by decide +kernel
theorem dd_Log_copyFrom_13 : decode prog_3_method_5_code 13 = .ok (.aaload, 1) := by decide +kernel
theorem dd_Log_copyFrom_14 : decode prog_3_method_5_code 14 = .ok (.astore_n 3, 1) := by decide +kernel
theorem dd_Log_copyFrom_15 : decode prog_3_method_5_code 15 = .ok (.aload_n 1, 1) := by decide +kernel
theorem dd_Log_copyFrom_16 : decode prog_3_method_5_code 16 = .ok (.getfield 11, 3) := by decide +kernel
theorem dd_Log_copyFrom_19 : decode prog_3_method_5_code 19 = .ok (.iload_n 2, 1) := by decide +kernel
theorem dd_Log_copyFrom_20 : decode prog_3_method_5_code 20 = .ok (.aaload, 1) := by decide +kernel
theorem dd_Log_copyFrom_21 : decode prog_3_method_5_code 21 = .ok (.astore 4, 2) := by decide +kernel
theorem dd_Log_copyFrom_23 : decode prog_3_method_5_code 23 = .ok (.aload_n 3, 1) := by decide +kernel
theorem dd_Log_copyFrom_24 : decode prog_3_method_5_code 24 = .ok (.ifnull 14, 3) := by decide +kernel
theorem dd_Log_copyFrom_27 : decode prog_3_method_5_code 27 = .ok (.aload 4, 2) := by decide +kernel
theorem dd_Log_copyFrom_29 : decode prog_3_method_5_code 29 = .ok (.ifnull 9, 3) := by decide +kernel
theorem dd_Log_copyFrom_32 : decode prog_3_method_5_code 32 = .ok (.aload_n 3, 1) := by decide +kernel
theorem dd_Log_copyFrom_33 : decode prog_3_method_5_code 33 = .ok (.aload 4, 2) := by decide +kernel
theorem dd_Log_copyFrom_35 : decode prog_3_method_5_code 35 = .ok (.invokevirtual 35, 3) := by decide +kernel
theorem dd_Log_copyFrom_38 : decode prog_3_method_5_code 38 = .ok (.aload_n 0, 1) := by decide +kernel
theorem dd_Log_copyFrom_39 : decode prog_3_method_5_code 39 = .ok (.getfield 17, 3) := by decide +kernel
theorem dd_Log_copyFrom_42 : decode prog_3_method_5_code 42 = .ok (.iload_n 2, 1) := by decide +kernel
theorem dd_Log_copyFrom_43 : decode prog_3_method_5_code 43 = .ok (.aload_n 1, 1) := by decide +kernel
theorem dd_Log_copyFrom_44 : decode prog_3_method_5_code 44 = .ok (.getfield 17, 3) := by decide +kernel
theorem dd_Log_copyFrom_47 : decode prog_3_method_5_code 47 = .ok (.iload_n 2, 1) := by decide +kernel
theorem dd_Log_copyFrom_48 : decode prog_3_method_5_code 48 = .ok (.iaload, 1) := by decide +kernel
theorem dd_Log_copyFrom_49 : decode prog_3_method_5_code 49 = .ok (.iastore, 1) := by decide +kernel
theorem dd_Log_copyFrom_50 : decode prog_3_method_5_code 50 = .ok (.iinc 2 1, 3) := by decide +kernel
theorem dd_Log_copyFrom_53 : decode prog_3_method_5_code 53 = .ok (.goto (-51), 3) := by decide +kernel
theorem dd_Log_copyFrom_56 : decode prog_3_method_5_code 56 = .ok (.aload_n 0, 1) := by decide +kernel
theorem dd_Log_copyFrom_57 : decode prog_3_method_5_code 57 = .ok (.aload_n 1, 1) := by decide +kernel
theorem dd_Log_copyFrom_58 : decode prog_3_method_5_code 58 = .ok (.getfield 21, 3) := by decide +kernel
theorem dd_Log_copyFrom_61 : decode prog_3_method_5_code 61 = .ok (.putfield 21, 3) := by decide +kernel
theorem dd_Log_copyFrom_64 : decode prog_3_method_5_code 64 = .ok (.aload_n 0, 1) := by decide +kernel
theorem dd_Log_copyFrom_65 : decode prog_3_method_5_code 65 = .ok (.aload_n 1, 1) := by decide +kernel
theorem dd_Log_copyFrom_66 : decode prog_3_method_5_code 66 = .ok (.getfield 25, 3) := by decide +kernel
theorem dd_Log_copyFrom_69 : decode prog_3_method_5_code 69 = .ok (.putfield 25, 3) := by decide +kernel
theorem dd_Log_copyFrom_72 : decode prog_3_method_5_code 72 = .ok (.return_, 1) := by decide +kernel
def jx_Log_copyFrom (p0 : Option Nat) (p1 : Option Nat) : sf_M (Unit) :=
  sf_bnd (sf_loop (β := (Int32)) (γ := (Unit)) (fun b1 =>
  if (16 : Int32) ≤ b1 then (
  sf_ret (.inr ())
  ) else (
  sf_bnd (sf_gR 2 0 p0) fun x3 =>
  sf_bnd (sf_aR 4 x3 b1) fun x4 =>
  sf_bnd (sf_gR 2 0 p1) fun x5 =>
  sf_bnd (sf_aR 4 x5 b1) fun x6 =>
  sf_bnd (α := (Unit)) (
  if x4 = none then (
  sf_ret ()
  ) else (
  if x6 = none then (
  sf_ret ()
  ) else (
  sf_bnd (sf_rc 5 x4 (jx_Pocket_copyFrom x4 x6)) fun _ =>
  sf_ret ()
  )
  )
  ) (fun v10 =>
  sf_bnd (sf_gR 2 1 p0) fun x11 =>
  sf_bnd (sf_gR 2 1 p1) fun x12 =>
  sf_bnd (sf_aI 0 x12 b1) fun x13 =>
  sf_bnd (sf_sI 0 x11 b1 x13) fun _ =>
  sf_bnd (sf_ret (b1 + (1 : Int32))) fun y14 =>
  sf_ret (.inl y14)
  )
  )
  ) sf_fuel (0 : Int32)) (fun e15 =>
  sf_bnd (sf_gI 2 2 p1) fun x16 =>
  sf_bnd (sf_pI 2 2 p0 x16) fun _ =>
  sf_bnd (sf_gI 2 3 p1) fun x17 =>
  sf_bnd (sf_pI 2 3 p0 x17) fun _ =>
  sf_ret ()
  )
set_option maxRecDepth 20000 in
set_option maxHeartbeats 4000000 in
theorem ok_Log_copyFrom (p0 : Option Nat) (p1 : Option Nat) : sf_Ok ({ cls := "SplitFares$Log", name := "copyFrom", desc := "(LSplitFares$Log;)V" } : Jvm.MethodName) prog_3_method_5_code 5 none 2 [sf_rv p0, sf_rv p1] (jx_Log_copyFrom p0 p1) (fun _ => none) := by
  refine sf_Ok.of (env := [some (sf_rv p0), some (sf_rv p1), none, none, none]) (plainFor_of_name (by decide)) [false, false] (fun G => ⟨pk_r, pk_r, trivial⟩) (Nat.le_of_ble_eq_true rfl) rfl (fun X => ?_)
  unfold jx_Log_copyFrom
  refine fp_iconst (v := (0 : Int32)) dd_Log_copyFrom_0 (by decide) (fr_pc (pc' := 1) rfl ?_)
  refine fp_istore_n (i := 2) dd_Log_copyFrom_1 rfl (Nat.le_of_ble_eq_true rfl) (fun _ => c1_r rfl) (fr_to (pc' := 2) (env' := [some (sf_rv p0), some (sf_rv p1), some (.int (0 : Int32)), none, none]) (stk' := []) rfl rfl rfl ?_)
  refine fr_to (pc' := 2) (env' := [some (sf_rv p0), some (sf_rv p1), some (.int (0 : Int32)), none, none]) (stk' := []) rfl rfl rfl ?_
  refine fr_bnd (l1 := (fun (e15 : (Unit)) => sf_p 56 [some (sf_rv p0), some (sf_rv p1), none, none, none] [])) (fr_loop (Lb := (fun (b1 : (Int32)) => sf_p 2 [some (sf_rv p0), some (sf_rv p1), some (.int b1), none, none] [])) (fun b1 => ?_) _ _) (fun e15 => ?_)
  · refine fp_iload_n (i := 2) (x := b1) dd_Log_copyFrom_2 rfl rfl (fr_pc (pc' := 3) rfl ?_)
    refine fp_bipush (v := (16 : Int32)) dd_Log_copyFrom_3 (by decide) (fr_pc (pc' := 5) rfl ?_)
    refine fr_icmp_ge (tgt := 56) dd_Log_copyFrom_5 rfl (fun _ => ?_) (fun _ => ?_)
    · refine fr_wk [true, true, false, false, false] ?_
      exact fr_ret rfl
    · refine fr_pc (pc' := 8) rfl ?_
      refine fp_aload_n (i := 0) (r := p0) dd_Log_copyFrom_8 rfl rfl (fr_pc (pc' := 9) rfl ?_)
      refine fr_gR cl_2 0 (by decide) rfl sw_173 dd_Log_copyFrom_9 (fun x3 => fr_pc (pc' := 12) rfl ?_)
      refine fp_iload_n (i := 2) (x := b1) dd_Log_copyFrom_12 rfl rfl (fr_pc (pc' := 13) rfl ?_)
      refine fr_aR (by decide) (by decide) ar_4 dd_Log_copyFrom_13 (fun x4 => fr_pc (pc' := 14) rfl ?_)
      refine fp_astore_n (i := 3) dd_Log_copyFrom_14 rfl (Nat.le_of_ble_eq_true rfl) (fun _ => c1_i rfl) (fr_to (pc' := 15) (env' := [some (sf_rv p0), some (sf_rv p1), some (.int b1), some (sf_rv x4), none]) (stk' := []) rfl rfl rfl ?_)
      refine fp_aload_n (i := 1) (r := p1) dd_Log_copyFrom_15 rfl rfl (fr_pc (pc' := 16) rfl ?_)
      refine fr_gR cl_2 0 (by decide) rfl sw_173 dd_Log_copyFrom_16 (fun x5 => fr_pc (pc' := 19) rfl ?_)
      refine fp_iload_n (i := 2) (x := b1) dd_Log_copyFrom_19 rfl rfl (fr_pc (pc' := 20) rfl ?_)
      refine fr_aR (by decide) (by decide) ar_4 dd_Log_copyFrom_20 (fun x6 => fr_pc (pc' := 21) rfl ?_)
      refine fp_astore (i := 4) dd_Log_copyFrom_21 (Nat.le_of_ble_eq_true rfl) (fun _ => c1_r rfl) (fr_to (pc' := 23) (env' := [some (sf_rv p0), some (sf_rv p1), some (.int b1), some (sf_rv x4), some (sf_rv x6)]) (stk' := []) rfl rfl rfl ?_)
      refine fp_aload_n (i := 3) (r := x4) dd_Log_copyFrom_23 rfl rfl (fr_pc (pc' := 24) rfl ?_)
      refine fr_bnd (l1 := (fun (v10 : (Unit)) => sf_p 38 [some (sf_rv p0), some (sf_rv p1), some (.int b1), some (sf_rv x4), some (sf_rv x6)] [])) ?_ (fun v10 => ?_)
      · refine fr_ifnull (tgt := 38) dd_Log_copyFrom_24 rfl (fun _ => ?_) (fun _ => ?_)
        · exact fr_ret rfl
        · refine fr_pc (pc' := 27) rfl ?_
          refine fp_aload (i := 4) (r := x6) dd_Log_copyFrom_27 rfl (fr_pc (pc' := 29) rfl ?_)
          refine fr_ifnull (tgt := 38) dd_Log_copyFrom_29 rfl (fun _ => ?_) (fun _ => ?_)
          · exact fr_ret rfl
          · refine fr_pc (pc' := 32) rfl ?_
            refine fp_aload_n (i := 3) (r := x4) dd_Log_copyFrom_32 rfl rfl (fr_pc (pc' := 33) rfl ?_)
            refine fp_aload (i := 4) (r := x6) dd_Log_copyFrom_33 rfl (fr_pc (pc' := 35) rfl ?_)
            refine fr_callV (stk := []) (As := [sf_rv x6]) cl_5 (ok_Pocket_copyFrom x4 x6) mt_Pocket_copyFrom rfl rfl sw_755 sw_747 sw_748 (by decide) (Nat.le_of_ble_eq_true rfl) dd_Log_copyFrom_35 (fun u9 => fr_to (pc' := 38) (env' := [some (sf_rv p0), some (sf_rv p1), some (.int b1), some (sf_rv x4), some (sf_rv x6)]) (stk' := []) rfl rfl rfl ?_)
            exact fr_ret rfl
      · refine fp_aload_n (i := 0) (r := p0) dd_Log_copyFrom_38 rfl rfl (fr_pc (pc' := 39) rfl ?_)
        refine fr_gR cl_2 1 (by decide) rfl sw_174 dd_Log_copyFrom_39 (fun x11 => fr_pc (pc' := 42) rfl ?_)
        refine fp_iload_n (i := 2) (x := b1) dd_Log_copyFrom_42 rfl rfl (fr_pc (pc' := 43) rfl ?_)
        refine fp_aload_n (i := 1) (r := p1) dd_Log_copyFrom_43 rfl rfl (fr_pc (pc' := 44) rfl ?_)
        refine fr_gR cl_2 1 (by decide) rfl sw_174 dd_Log_copyFrom_44 (fun x12 => fr_pc (pc' := 47) rfl ?_)
        refine fp_iload_n (i := 2) (x := b1) dd_Log_copyFrom_47 rfl rfl (fr_pc (pc' := 48) rfl ?_)
        refine fr_aI0 dd_Log_copyFrom_48 (fun x13 => fr_pc (pc' := 49) rfl ?_)
        refine fr_sI0 dd_Log_copyFrom_49 (fr_pc (pc' := 50) rfl ?_)
        refine fr_niinc (i := 2) (x := b1) (w := (1 : Int32)) dd_Log_copyFrom_50 rfl (by decide) (Nat.le_of_ble_eq_true rfl) (fun _ => c1_r rfl) (fun y14 => fr_to (pc' := 53) (env' := [some (sf_rv p0), some (sf_rv p1), some (.int y14), some (sf_rv x4), some (sf_rv x6)]) (stk' := []) rfl rfl rfl ?_)
        refine fp_goto (tgt := 2) dd_Log_copyFrom_53 rfl ?_
        refine fr_wk [true, true, true, false, false] ?_
        exact fr_ret rfl
  · refine fp_aload_n (i := 0) (r := p0) dd_Log_copyFrom_56 rfl rfl (fr_pc (pc' := 57) rfl ?_)
    refine fp_aload_n (i := 1) (r := p1) dd_Log_copyFrom_57 rfl rfl (fr_pc (pc' := 58) rfl ?_)
    refine fr_gI cl_2 2 (by decide) rfl sw_175 dd_Log_copyFrom_58 (fun x16 => fr_pc (pc' := 61) rfl ?_)
    refine fr_pI cl_2 2 (by decide) rfl sw_175 rfl ⟨rfl, rfl⟩ dd_Log_copyFrom_61 (fr_pc (pc' := 64) rfl ?_)
    refine fp_aload_n (i := 0) (r := p0) dd_Log_copyFrom_64 rfl rfl (fr_pc (pc' := 65) rfl ?_)
    refine fp_aload_n (i := 1) (r := p1) dd_Log_copyFrom_65 rfl rfl (fr_pc (pc' := 66) rfl ?_)
    refine fr_gI cl_2 3 (by decide) rfl sw_176 dd_Log_copyFrom_66 (fun x17 => fr_pc (pc' := 69) rfl ?_)
    refine fr_pI cl_2 3 (by decide) rfl sw_176 rfl ⟨rfl, rfl⟩ dd_Log_copyFrom_69 (fr_pc (pc' := 72) rfl ?_)
    exact fr_vret rfl rfl dd_Log_copyFrom_72
theorem mt_Log_push : sf_Mt ({ cls := "SplitFares$Log", name := "push", desc := "(ILSplitFares$Pocket;)V" } : Jvm.MethodName) prog_3_method_3_code 5 none 2 := ⟨sw_783, sw_7, ⟨by decide, by decide, by decide +kernel⟩, by decide⟩
theorem dd_Log_push_0 : decode prog_3_method_3_code 0 = .ok (.aload_n 0, 1) := by decide +kernel
theorem dd_Log_push_1 : decode prog_3_method_3_code 1 = .ok (.getfield 21, 3) := by decide +kernel
theorem dd_Log_push_4 : decode prog_3_method_3_code 4 = .ok (.aload_n 0, 1) := by decide +kernel
theorem dd_Log_push_5 : decode prog_3_method_3_code 5 = .ok (.getfield 25, 3) := by decide +kernel
theorem dd_Log_push_8 : decode prog_3_method_3_code 8 = .ok (.iadd, 1) := by decide +kernel
theorem dd_Log_push_9 : decode prog_3_method_3_code 9 = .ok (.bipush 16, 2) := by decide +kernel
theorem dd_Log_push_11 : decode prog_3_method_3_code 11 = .ok (.invokestatic 29, 3) := by decide +kernel
theorem dd_Log_push_14 : decode prog_3_method_3_code 14 = .ok (.istore_n 3, 1) := by decide +kernel
theorem dd_Log_push_15 : decode prog_3_method_3_code 15 = .ok (.aload_n 0, 1) := by decide +kernel
theorem dd_Log_push_16 : decode prog_3_method_3_code 16 = .ok (.getfield 11, 3) := by decide +kernel
theorem dd_Log_push_19 : decode prog_3_method_3_code 19 = .ok (.iload_n 3, 1) := by decide +kernel
theorem dd_Log_push_20 : decode prog_3_method_3_code 20 = .ok (.aaload, 1) := by decide +kernel
theorem dd_Log_push_21 : decode prog_3_method_3_code 21 = .ok (.astore 4, 2) := by decide +kernel
theorem dd_Log_push_23 : decode prog_3_method_3_code 23 = .ok (.aload 4, 2) := by decide +kernel
theorem dd_Log_push_25 : decode prog_3_method_3_code 25 = .ok (.ifnonnull 4, 3) := by decide +kernel
theorem dd_Log_push_28 : decode prog_3_method_3_code 28 = .ok (.return_, 1) := by decide +kernel
theorem dd_Log_push_29 : decode prog_3_method_3_code 29 = .ok (.aload 4, 2) := by decide +kernel
theorem dd_Log_push_31 : decode prog_3_method_3_code 31 = .ok (.aload_n 2, 1) := by decide +kernel
theorem dd_Log_push_32 : decode prog_3_method_3_code 32 = .ok (.invokevirtual 35, 3) := by decide +kernel
theorem dd_Log_push_35 : decode prog_3_method_3_code 35 = .ok (.aload_n 0, 1) := by decide +kernel
theorem dd_Log_push_36 : decode prog_3_method_3_code 36 = .ok (.getfield 17, 3) := by decide +kernel
theorem dd_Log_push_39 : decode prog_3_method_3_code 39 = .ok (.iload_n 3, 1) := by decide +kernel
theorem dd_Log_push_40 : decode prog_3_method_3_code 40 = .ok (.iload_n 1, 1) := by decide +kernel
theorem dd_Log_push_41 : decode prog_3_method_3_code 41 = .ok (.iastore, 1) := by decide +kernel
theorem dd_Log_push_42 : decode prog_3_method_3_code 42 = .ok (.aload_n 0, 1) := by decide +kernel
theorem dd_Log_push_43 : decode prog_3_method_3_code 43 = .ok (.getfield 25, 3) := by decide +kernel
theorem dd_Log_push_46 : decode prog_3_method_3_code 46 = .ok (.bipush 16, 2) := by decide +kernel
theorem dd_Log_push_48 : decode prog_3_method_3_code 48 = .ok (.if_icmp .ge 16, 3) := by decide +kernel
theorem dd_Log_push_51 : decode prog_3_method_3_code 51 = .ok (.aload_n 0, 1) := by decide +kernel
theorem dd_Log_push_52 : decode prog_3_method_3_code 52 = .ok (.dup, 1) := by decide +kernel
theorem dd_Log_push_53 : decode prog_3_method_3_code 53 = .ok (.getfield 25, 3) := by decide +kernel
theorem dd_Log_push_56 : decode prog_3_method_3_code 56 = .ok (.iconst 1, 1) := by decide +kernel
theorem dd_Log_push_57 : decode prog_3_method_3_code 57 = .ok (.iadd, 1) := by decide +kernel
theorem dd_Log_push_58 : decode prog_3_method_3_code 58 = .ok (.putfield 25, 3) := by decide +kernel
theorem dd_Log_push_61 : decode prog_3_method_3_code 61 = .ok (.goto 18, 3) := by decide +kernel
theorem dd_Log_push_64 : decode prog_3_method_3_code 64 = .ok (.aload_n 0, 1) := by decide +kernel
theorem dd_Log_push_65 : decode prog_3_method_3_code 65 = .ok (.aload_n 0, 1) := by decide +kernel
theorem dd_Log_push_66 : decode prog_3_method_3_code 66 = .ok (.getfield 21, 3) := by decide +kernel
theorem dd_Log_push_69 : decode prog_3_method_3_code 69 = .ok (.iconst 1, 1) := by decide +kernel
theorem dd_Log_push_70 : decode prog_3_method_3_code 70 = .ok (.iadd, 1) := by decide +kernel
theorem dd_Log_push_71 : decode prog_3_method_3_code 71 = .ok (.bipush 16, 2) := by decide +kernel
theorem dd_Log_push_73 : decode prog_3_method_3_code 73 = .ok (.invokestatic 29, 3) := by decide +kernel
theorem dd_Log_push_76 : decode prog_3_method_3_code 76 = .ok (.putfield 21, 3) := by decide +kernel
theorem dd_Log_push_79 : decode prog_3_method_3_code 79 = .ok (.return_, 1) := by decide +kernel
def jx_Log_push (p0 : Option Nat) (p1 : Int32) (p2 : Option Nat) : sf_M (Unit) :=
  sf_bnd (sf_gI 2 2 p0) fun x1 =>
  sf_bnd (sf_gI 2 3 p0) fun x2 =>
  sf_bnd (jx_Math_floorMod (x1 + x2) (16 : Int32)) fun x3 =>
  sf_bnd (sf_gR 2 0 p0) fun x4 =>
  sf_bnd (sf_aR 4 x4 x3) fun x5 =>
  if x5 = none then (
  sf_ret ()
  ) else (
  sf_bnd (sf_rc 5 x5 (jx_Pocket_copyFrom x5 p2)) fun _ =>
  sf_bnd (sf_gR 2 1 p0) fun x8 =>
  sf_bnd (sf_sI 0 x8 x3 p1) fun _ =>
  sf_bnd (sf_gI 2 3 p0) fun x9 =>
  if (16 : Int32) ≤ x9 then (
  sf_bnd (sf_gI 2 2 p0) fun x11 =>
  sf_bnd (jx_Math_floorMod (x11 + (1 : Int32)) (16 : Int32)) fun x12 =>
  sf_bnd (sf_pI 2 2 p0 x12) fun _ =>
  sf_ret ()
  ) else (
  sf_bnd (sf_gI 2 3 p0) fun x13 =>
  sf_bnd (sf_pI 2 3 p0 (x13 + (1 : Int32))) fun _ =>
  sf_ret ()
  )
  )
set_option maxRecDepth 20000 in
set_option maxHeartbeats 4000000 in
theorem ok_Log_push (p0 : Option Nat) (p1 : Int32) (p2 : Option Nat) : sf_Ok ({ cls := "SplitFares$Log", name := "push", desc := "(ILSplitFares$Pocket;)V" } : Jvm.MethodName) prog_3_method_3_code 5 none 2 [sf_rv p0, .int p1, sf_rv p2] (jx_Log_push p0 p1 p2) (fun _ => none) := by
  refine sf_Ok.of (env := [some (sf_rv p0), some (.int p1), some (sf_rv p2), none, none]) (plainFor_of_name (by decide)) [false, false, false] (fun G => ⟨pk_r, pk_i, pk_r, trivial⟩) (Nat.le_of_ble_eq_true rfl) rfl (fun X => ?_)
  unfold jx_Log_push
  refine fp_aload_n (i := 0) (r := p0) dd_Log_push_0 rfl rfl (fr_pc (pc' := 1) rfl ?_)
  refine fr_gI cl_2 2 (by decide) rfl sw_175 dd_Log_push_1 (fun x1 => fr_pc (pc' := 4) rfl ?_)
  refine fp_aload_n (i := 0) (r := p0) dd_Log_push_4 rfl rfl (fr_pc (pc' := 5) rfl ?_)
  refine fr_gI cl_2 3 (by decide) rfl sw_176 dd_Log_push_5 (fun x2 => fr_pc (pc' := 8) rfl ?_)
  refine fp_iadd dd_Log_push_8 (fr_pc (pc' := 9) rfl ?_)
  refine fp_bipush (v := (16 : Int32)) dd_Log_push_9 (by decide) (fr_pc (pc' := 11) rfl ?_)
  refine fr_callS (stk := []) (ok_Math_floorMod (x1 + x2) (16 : Int32)) mt_Math_floorMod rfl rfl sw_784 sw_785 (by decide) (Nat.le_of_ble_eq_true rfl) dd_Log_push_11 (fun x3 => fr_to (pc' := 14) (env' := [some (sf_rv p0), some (.int p1), some (sf_rv p2), none, none]) (stk' := [.int x3]) rfl rfl rfl ?_)
  refine fp_istore_n (i := 3) dd_Log_push_14 rfl (Nat.le_of_ble_eq_true rfl) (fun _ => c1_r rfl) (fr_to (pc' := 15) (env' := [some (sf_rv p0), some (.int p1), some (sf_rv p2), some (.int x3), none]) (stk' := []) rfl rfl rfl ?_)
  refine fp_aload_n (i := 0) (r := p0) dd_Log_push_15 rfl rfl (fr_pc (pc' := 16) rfl ?_)
  refine fr_gR cl_2 0 (by decide) rfl sw_173 dd_Log_push_16 (fun x4 => fr_pc (pc' := 19) rfl ?_)
  refine fp_iload_n (i := 3) (x := x3) dd_Log_push_19 rfl rfl (fr_pc (pc' := 20) rfl ?_)
  refine fr_aR (by decide) (by decide) ar_4 dd_Log_push_20 (fun x5 => fr_pc (pc' := 21) rfl ?_)
  refine fp_astore (i := 4) dd_Log_push_21 (Nat.le_of_ble_eq_true rfl) (fun _ => c1_i rfl) (fr_to (pc' := 23) (env' := [some (sf_rv p0), some (.int p1), some (sf_rv p2), some (.int x3), some (sf_rv x5)]) (stk' := []) rfl rfl rfl ?_)
  refine fp_aload (i := 4) (r := x5) dd_Log_push_23 rfl (fr_pc (pc' := 25) rfl ?_)
  refine fr_ifnonnull (tgt := 29) dd_Log_push_25 rfl (fun _ => ?_) (fun _ => ?_)
  · refine fr_pc (pc' := 28) rfl ?_
    exact fr_vret rfl rfl dd_Log_push_28
  · refine fp_aload (i := 4) (r := x5) dd_Log_push_29 rfl (fr_pc (pc' := 31) rfl ?_)
    refine fp_aload_n (i := 2) (r := p2) dd_Log_push_31 rfl rfl (fr_pc (pc' := 32) rfl ?_)
    refine fr_callV (stk := []) (As := [sf_rv p2]) cl_5 (ok_Pocket_copyFrom x5 p2) mt_Pocket_copyFrom rfl rfl sw_755 sw_747 sw_748 (by decide) (Nat.le_of_ble_eq_true rfl) dd_Log_push_32 (fun u7 => fr_to (pc' := 35) (env' := [some (sf_rv p0), some (.int p1), some (sf_rv p2), some (.int x3), some (sf_rv x5)]) (stk' := []) rfl rfl rfl ?_)
    refine fp_aload_n (i := 0) (r := p0) dd_Log_push_35 rfl rfl (fr_pc (pc' := 36) rfl ?_)
    refine fr_gR cl_2 1 (by decide) rfl sw_174 dd_Log_push_36 (fun x8 => fr_pc (pc' := 39) rfl ?_)
    refine fp_iload_n (i := 3) (x := x3) dd_Log_push_39 rfl rfl (fr_pc (pc' := 40) rfl ?_)
    refine fp_iload_n (i := 1) (x := p1) dd_Log_push_40 rfl rfl (fr_pc (pc' := 41) rfl ?_)
    refine fr_sI0 dd_Log_push_41 (fr_pc (pc' := 42) rfl ?_)
    refine fp_aload_n (i := 0) (r := p0) dd_Log_push_42 rfl rfl (fr_pc (pc' := 43) rfl ?_)
    refine fr_gI cl_2 3 (by decide) rfl sw_176 dd_Log_push_43 (fun x9 => fr_pc (pc' := 46) rfl ?_)
    refine fp_bipush (v := (16 : Int32)) dd_Log_push_46 (by decide) (fr_pc (pc' := 48) rfl ?_)
    refine fr_icmp_ge (tgt := 64) dd_Log_push_48 rfl (fun _ => ?_) (fun _ => ?_)
    · refine fp_aload_n (i := 0) (r := p0) dd_Log_push_64 rfl rfl (fr_pc (pc' := 65) rfl ?_)
      refine fp_aload_n (i := 0) (r := p0) dd_Log_push_65 rfl rfl (fr_pc (pc' := 66) rfl ?_)
      refine fr_gI cl_2 2 (by decide) rfl sw_175 dd_Log_push_66 (fun x11 => fr_pc (pc' := 69) rfl ?_)
      refine fp_iconst (v := (1 : Int32)) dd_Log_push_69 (by decide) (fr_pc (pc' := 70) rfl ?_)
      refine fp_iadd dd_Log_push_70 (fr_pc (pc' := 71) rfl ?_)
      refine fp_bipush (v := (16 : Int32)) dd_Log_push_71 (by decide) (fr_pc (pc' := 73) rfl ?_)
      refine fr_callS (stk := [sf_rv p0]) (ok_Math_floorMod (x11 + (1 : Int32)) (16 : Int32)) mt_Math_floorMod rfl rfl sw_784 sw_785 (by decide) (Nat.le_of_ble_eq_true rfl) dd_Log_push_73 (fun x12 => fr_to (pc' := 76) (env' := [some (sf_rv p0), some (.int p1), some (sf_rv p2), some (.int x3), some (sf_rv x5)]) (stk' := [.int x12, sf_rv p0]) rfl rfl rfl ?_)
      refine fr_pI cl_2 2 (by decide) rfl sw_175 rfl ⟨rfl, rfl⟩ dd_Log_push_76 (fr_pc (pc' := 79) rfl ?_)
      exact fr_vret rfl rfl dd_Log_push_79
    · refine fr_pc (pc' := 51) rfl ?_
      refine fp_aload_n (i := 0) (r := p0) dd_Log_push_51 rfl rfl (fr_pc (pc' := 52) rfl ?_)
      refine fp_dup_r dd_Log_push_52 (fr_pc (pc' := 53) rfl ?_)
      refine fr_gI cl_2 3 (by decide) rfl sw_176 dd_Log_push_53 (fun x13 => fr_pc (pc' := 56) rfl ?_)
      refine fp_iconst (v := (1 : Int32)) dd_Log_push_56 (by decide) (fr_pc (pc' := 57) rfl ?_)
      refine fp_iadd dd_Log_push_57 (fr_pc (pc' := 58) rfl ?_)
      refine fr_pI cl_2 3 (by decide) rfl sw_176 rfl ⟨rfl, rfl⟩ dd_Log_push_58 (fr_pc (pc' := 61) rfl ?_)
      refine fp_goto (tgt := 79) dd_Log_push_61 rfl ?_
      exact fr_vret rfl rfl dd_Log_push_79
theorem mt_Log_pop : sf_Mt ({ cls := "SplitFares$Log", name := "pop", desc := "(LSplitFares$Pocket;)I" } : Jvm.MethodName) prog_3_method_4_code 4 (some .int) 1 := ⟨sw_893, sw_7, ⟨by decide, by decide, by decide +kernel⟩, by decide⟩
theorem dd_Log_pop_0 : decode prog_3_method_4_code 0 = .ok (.aload_n 0, 1) := by decide +kernel
theorem dd_Log_pop_1 : decode prog_3_method_4_code 1 = .ok (.getfield 25, 3) := by decide +kernel
theorem dd_Log_pop_4 : decode prog_3_method_4_code 4 = .ok (.ifCond .gt 5, 3) := by decide +kernel
theorem dd_Log_pop_7 : decode prog_3_method_4_code 7 = .ok (.iconst (-1), 1) := by decide +kernel
theorem dd_Log_pop_8 : decode prog_3_method_4_code 8 = .ok (.ireturn, 1) := by decide +kernel
theorem dd_Log_pop_9 : decode prog_3_method_4_code 9 = .ok (.aload_n 0, 1) := by decide +kernel
theorem dd_Log_pop_10 : decode prog_3_method_4_code 10 = .ok (.dup, 1) := by decide +kernel
theorem dd_Log_pop_11 : decode prog_3_method_4_code 11 = .ok (.getfield 25, 3) := by decide +kernel
theorem dd_Log_pop_14 : decode prog_3_method_4_code 14 = .ok (.iconst 1, 1) := by decide +kernel
theorem dd_Log_pop_15 : decode prog_3_method_4_code 15 = .ok (.isub, 1) := by decide +kernel
theorem dd_Log_pop_16 : decode prog_3_method_4_code 16 = .ok (.putfield 25, 3) := by decide +kernel
theorem dd_Log_pop_19 : decode prog_3_method_4_code 19 = .ok (.aload_n 0, 1) := by decide +kernel
theorem dd_Log_pop_20 : decode prog_3_method_4_code 20 = .ok (.getfield 21, 3) := by decide +kernel
theorem dd_Log_pop_23 : decode prog_3_method_4_code 23 = .ok (.aload_n 0, 1) := by decide +kernel
theorem dd_Log_pop_24 : decode prog_3_method_4_code 24 = .ok (.getfield 25, 3) := by decide +kernel
theorem dd_Log_pop_27 : decode prog_3_method_4_code 27 = .ok (.iadd, 1) := by decide +kernel
theorem dd_Log_pop_28 : decode prog_3_method_4_code 28 = .ok (.bipush 16, 2) := by decide +kernel
theorem dd_Log_pop_30 : decode prog_3_method_4_code 30 = .ok (.invokestatic 29, 3) := by decide +kernel
theorem dd_Log_pop_33 : decode prog_3_method_4_code 33 = .ok (.istore_n 2, 1) := by decide +kernel
theorem dd_Log_pop_34 : decode prog_3_method_4_code 34 = .ok (.aload_n 0, 1) := by decide +kernel
theorem dd_Log_pop_35 : decode prog_3_method_4_code 35 = .ok (.getfield 11, 3) := by decide +kernel
theorem dd_Log_pop_38 : decode prog_3_method_4_code 38 = .ok (.iload_n 2, 1) := by decide +kernel
theorem dd_Log_pop_39 : decode prog_3_method_4_code 39 = .ok (.aaload, 1) := by decide +kernel
theorem dd_Log_pop_40 : decode prog_3_method_4_code 40 = .ok (.astore_n 3, 1) := by decide +kernel
theorem dd_Log_pop_41 : decode prog_3_method_4_code 41 = .ok (.aload_n 3, 1) := by decide +kernel
theorem dd_Log_pop_42 : decode prog_3_method_4_code 42 = .ok (.ifnonnull 5, 3) := by decide +kernel
theorem dd_Log_pop_45 : decode prog_3_method_4_code 45 = .ok (.iconst (-1), 1) := by decide +kernel
theorem dd_Log_pop_46 : decode prog_3_method_4_code 46 = .ok (.ireturn, 1) := by decide +kernel
theorem dd_Log_pop_47 : decode prog_3_method_4_code 47 = .ok (.aload_n 1, 1) := by decide +kernel
theorem dd_Log_pop_48 : decode prog_3_method_4_code 48 = .ok (.aload_n 3, 1) := by decide +kernel
theorem dd_Log_pop_49 : decode prog_3_method_4_code 49 = .ok (.invokevirtual 35, 3) := by decide +kernel
theorem dd_Log_pop_52 : decode prog_3_method_4_code 52 = .ok (.aload_n 0, 1) := by decide +kernel
theorem dd_Log_pop_53 : decode prog_3_method_4_code 53 = .ok (.getfield 17, 3) := by decide +kernel
theorem dd_Log_pop_56 : decode prog_3_method_4_code 56 = .ok (.iload_n 2, 1) := by decide +kernel
theorem dd_Log_pop_57 : decode prog_3_method_4_code 57 = .ok (.iaload, 1) := by decide +kernel
theorem dd_Log_pop_58 : decode prog_3_method_4_code 58 = .ok (.ireturn, 1) := by decide +kernel
def jx_Log_pop (p0 : Option Nat) (p1 : Option Nat) : sf_M (Int32) :=
  sf_bnd (sf_gI 2 3 p0) fun x1 =>
  if 0 < x1 then (
  sf_bnd (sf_gI 2 3 p0) fun x3 =>
  sf_bnd (sf_pI 2 3 p0 (x3 - (1 : Int32))) fun _ =>
  sf_bnd (sf_gI 2 2 p0) fun x4 =>
  sf_bnd (sf_gI 2 3 p0) fun x5 =>
  sf_bnd (jx_Math_floorMod (x4 + x5) (16 : Int32)) fun x6 =>
  sf_bnd (sf_gR 2 0 p0) fun x7 =>
  sf_bnd (sf_aR 4 x7 x6) fun x8 =>
  if x8 = none then (
  sf_ret (-1 : Int32)
  ) else (
  sf_bnd (sf_rc 5 p1 (jx_Pocket_copyFrom p1 x8)) fun _ =>
  sf_bnd (sf_gR 2 1 p0) fun x11 =>
  sf_bnd (sf_aI 0 x11 x6) fun x12 =>
  sf_ret x12
  )
  ) else (
  sf_ret (-1 : Int32)
  )
set_option maxRecDepth 20000 in
set_option maxHeartbeats 4000000 in
theorem ok_Log_pop (p0 : Option Nat) (p1 : Option Nat) : sf_Ok ({ cls := "SplitFares$Log", name := "pop", desc := "(LSplitFares$Pocket;)I" } : Jvm.MethodName) prog_3_method_4_code 4 (some .int) 2 [sf_rv p0, sf_rv p1] (jx_Log_pop p0 p1) (fun r => some (.int r)) := by
  refine sf_Ok.of (env := [some (sf_rv p0), some (sf_rv p1), none, none]) (plainFor_of_name (by decide)) [false, false] (fun G => ⟨pk_r, pk_r, trivial⟩) (Nat.le_of_ble_eq_true rfl) rfl (fun X => ?_)
  unfold jx_Log_pop
  refine fp_aload_n (i := 0) (r := p0) dd_Log_pop_0 rfl rfl (fr_pc (pc' := 1) rfl ?_)
  refine fr_gI cl_2 3 (by decide) rfl sw_176 dd_Log_pop_1 (fun x1 => fr_pc (pc' := 4) rfl ?_)
  refine fr_if_gt (tgt := 9) dd_Log_pop_4 rfl (fun _ => ?_) (fun _ => ?_)
  · refine fp_aload_n (i := 0) (r := p0) dd_Log_pop_9 rfl rfl (fr_pc (pc' := 10) rfl ?_)
    refine fp_dup_r dd_Log_pop_10 (fr_pc (pc' := 11) rfl ?_)
    refine fr_gI cl_2 3 (by decide) rfl sw_176 dd_Log_pop_11 (fun x3 => fr_pc (pc' := 14) rfl ?_)
    refine fp_iconst (v := (1 : Int32)) dd_Log_pop_14 (by decide) (fr_pc (pc' := 15) rfl ?_)
    refine fp_isub dd_Log_pop_15 (fr_pc (pc' := 16) rfl ?_)
    refine fr_pI cl_2 3 (by decide) rfl sw_176 rfl ⟨rfl, rfl⟩ dd_Log_pop_16 (fr_pc (pc' := 19) rfl ?_)
    refine fp_aload_n (i := 0) (r := p0) dd_Log_pop_19 rfl rfl (fr_pc (pc' := 20) rfl ?_)
    refine fr_gI cl_2 2 (by decide) rfl sw_175 dd_Log_pop_20 (fun x4 => fr_pc (pc' := 23) rfl ?_)
    refine fp_aload_n (i := 0) (r := p0) dd_Log_pop_23 rfl rfl (fr_pc (pc' := 24) rfl ?_)
    refine fr_gI cl_2 3 (by decide) rfl sw_176 dd_Log_pop_24 (fun x5 => fr_pc (pc' := 27) rfl ?_)
    refine fp_iadd dd_Log_pop_27 (fr_pc (pc' := 28) rfl ?_)
    refine fp_bipush (v := (16 : Int32)) dd_Log_pop_28 (by decide) (fr_pc (pc' := 30) rfl ?_)
    refine fr_callS (stk := []) (ok_Math_floorMod (x4 + x5) (16 : Int32)) mt_Math_floorMod rfl rfl sw_784 sw_785 (by decide) (Nat.le_of_ble_eq_true rfl) dd_Log_pop_30 (fun x6 => fr_to (pc' := 33) (env' := [some (sf_rv p0), some (sf_rv p1), none, none]) (stk' := [.int x6]) rfl rfl rfl ?_)
    refine fp_istore_n (i := 2) dd_Log_pop_33 rfl (Nat.le_of_ble_eq_true rfl) (fun _ => c1_r rfl) (fr_to (pc' := 34) (env' := [some (sf_rv p0), some (sf_rv p1), some (.int x6), none]) (stk' := []) rfl rfl rfl ?_)
    refine fp_aload_n (i := 0) (r := p0) dd_Log_pop_34 rfl rfl (fr_pc (pc' := 35) rfl ?_)
    refine fr_gR cl_2 0 (by decide) rfl sw_173 dd_Log_pop_35 (fun x7 => fr_pc (pc' := 38) rfl ?_)
    refine fp_iload_n (i := 2) (x := x6) dd_Log_pop_38 rfl rfl (fr_pc (pc' := 39) rfl ?_)
    refine fr_aR (by decide) (by decide) ar_4 dd_Log_pop_39 (fun x8 => fr_pc (pc' := 40) rfl ?_)
    refine fp_astore_n (i := 3) dd_Log_pop_40 rfl (Nat.le_of_ble_eq_true rfl) (fun _ => c1_i rfl) (fr_to (pc' := 41) (env' := [some (sf_rv p0), some (sf_rv p1), some (.int x6), some (sf_rv x8)]) (stk' := []) rfl rfl rfl ?_)
    refine fp_aload_n (i := 3) (r := x8) dd_Log_pop_41 rfl rfl (fr_pc (pc' := 42) rfl ?_)
    refine fr_ifnonnull (tgt := 47) dd_Log_pop_42 rfl (fun _ => ?_) (fun _ => ?_)
    · refine fr_pc (pc' := 45) rfl ?_
      refine fp_iconst (v := (-1 : Int32)) dd_Log_pop_45 (by decide) (fr_pc (pc' := 46) rfl ?_)
      exact fr_iret (v := (-1 : Int32)) rfl rfl dd_Log_pop_46
    · refine fp_aload_n (i := 1) (r := p1) dd_Log_pop_47 rfl rfl (fr_pc (pc' := 48) rfl ?_)
      refine fp_aload_n (i := 3) (r := x8) dd_Log_pop_48 rfl rfl (fr_pc (pc' := 49) rfl ?_)
      refine fr_callV (stk := []) (As := [sf_rv x8]) cl_5 (ok_Pocket_copyFrom p1 x8) mt_Pocket_copyFrom rfl rfl sw_755 sw_747 sw_748 (by decide) (Nat.le_of_ble_eq_true rfl) dd_Log_pop_49 (fun u10 => fr_to (pc' := 52) (env' := [some (sf_rv p0), some (sf_rv p1), some (.int x6), some (sf_rv x8)]) (stk' := []) rfl rfl rfl ?_)
      refine fp_aload_n (i := 0) (r := p0) dd_Log_pop_52 rfl rfl (fr_pc (pc' := 53) rfl ?_)
      refine fr_gR cl_2 1 (by decide) rfl sw_174 dd_Log_pop_53 (fun x11 => fr_pc (pc' := 56) rfl ?_)
      refine fp_iload_n (i := 2) (x := x6) dd_Log_pop_56 rfl rfl (fr_pc (pc' := 57) rfl ?_)
      refine fr_aI0 dd_Log_pop_57 (fun x12 => fr_pc (pc' := 58) rfl ?_)
      exact fr_iret (v := x12) rfl rfl dd_Log_pop_58
  · refine fr_pc (pc' := 7) rfl ?_
    refine fp_iconst (v := (-1 : Int32)) dd_Log_pop_7 (by decide) (fr_pc (pc' := 8) rfl ?_)
    exact fr_iret (v := (-1 : Int32)) rfl rfl dd_Log_pop_8
