/-! Tokens: its methods as plain functions, and that the bytecode runs them (printed by program). -/
theorem mt_Tokens_init : sf_Mt ({ cls := "SplitFares$Tokens", name := "<init>", desc := "()V" } : Jvm.MethodName) prog_10_method_1_code 1 none 0 := ⟨sw_269, sw_11, ⟨by decide, by decide, by decide +kernel⟩, by decide⟩
theorem dd_Tokens_init_0 : decode prog_10_method_1_code 0 = .ok (.aload_n 0, 1) := by decide +kernel
theorem dd_Tokens_init_1 : decode prog_10_method_1_code 1 = .ok (.invokespecial 3, 3) := by decide +kernel
theorem dd_Tokens_init_4 : decode prog_10_method_1_code 4 = .ok (.aload_n 0, 1) := by decide +kernel
theorem dd_Tokens_init_5 : decode prog_10_method_1_code 5 = .ok (.sipush 400, 3) := by decide +kernel
theorem dd_Tokens_init_8 : decode prog_10_method_1_code 8 = .ok (.newarray .int, 2) := by decide +kernel
theorem dd_Tokens_init_10 : decode prog_10_method_1_code 10 = .ok (.putfield 9, 3) := by decide +kernel
theorem dd_Tokens_init_13 : decode prog_10_method_1_code 13 = .ok (.aload_n 0, 1) := by decide +kernel
theorem dd_Tokens_init_14 : decode prog_10_method_1_code 14 = .ok (.sipush 401, 3) := by decide +kernel
theorem dd_Tokens_init_17 : decode prog_10_method_1_code 17 = .ok (.newarray .int, 2) := by decide +kernel
theorem dd_Tokens_init_19 : decode prog_10_method_1_code 19 = .ok (.putfield 15, 3) := by decide +kernel
theorem dd_Tokens_init_22 : decode prog_10_method_1_code 22 = .ok (.aload_n 0, 1) := by decide +kernel
theorem dd_Tokens_init_23 : decode prog_10_method_1_code 23 = .ok (.sipush 401, 3) := by decide +kernel
theorem dd_Tokens_init_26 : decode prog_10_method_1_code 26 = .ok (.newarray .int, 2) := by decide +kernel
theorem dd_Tokens_init_28 : decode prog_10_method_1_code 28 = .ok (.putfield 18, 3) := by decide +kernel
theorem dd_Tokens_init_31 : decode prog_10_method_1_code 31 = .ok (.aload_n 0, 1) := by decide +kernel
theorem dd_Tokens_init_32 : decode prog_10_method_1_code 32 = .ok (.sipush 401, 3) := by decide +kernel
theorem dd_Tokens_init_35 : decode prog_10_method_1_code 35 = .ok (.newarray .int, 2) := by decide +kernel
theorem dd_Tokens_init_37 : decode prog_10_method_1_code 37 = .ok (.putfield 21, 3) := by decide +kernel
theorem dd_Tokens_init_40 : decode prog_10_method_1_code 40 = .ok (.aload_n 0, 1) := by decide +kernel
theorem dd_Tokens_init_41 : decode prog_10_method_1_code 41 = .ok (.iconst 0, 1) := by decide +kernel
theorem dd_Tokens_init_42 : decode prog_10_method_1_code 42 = .ok (.putfield 24, 3) := by decide +kernel
theorem dd_Tokens_init_45 : decode prog_10_method_1_code 45 = .ok (.aload_n 0, 1) := by decide +kernel
theorem dd_Tokens_init_46 : decode prog_10_method_1_code 46 = .ok (.iconst 0, 1) := by decide +kernel
theorem dd_Tokens_init_47 : decode prog_10_method_1_code 47 = .ok (.putfield 28, 3) := by decide +kernel
theorem dd_Tokens_init_50 : decode prog_10_method_1_code 50 = .ok (.aload_n 0, 1) := by decide +kernel
theorem dd_Tokens_init_51 : decode prog_10_method_1_code 51 = .ok (.iconst 0, 1) := by decide +kernel
theorem dd_Tokens_init_52 : decode prog_10_method_1_code 52 = .ok (.putfield 31, 3) := by decide +kernel
theorem dd_Tokens_init_55 : decode prog_10_method_1_code 55 = .ok (.aload_n 0, 1) := by decide +kernel
theorem dd_Tokens_init_56 : decode prog_10_method_1_code 56 = .ok (.iconst 0, 1) := by decide +kernel
theorem dd_Tokens_init_57 : decode prog_10_method_1_code 57 = .ok (.putfield 34, 3) := by decide +kernel
theorem dd_Tokens_init_60 : decode prog_10_method_1_code 60 = .ok (.aload_n 0, 1) := by decide +kernel
theorem dd_Tokens_init_61 : decode prog_10_method_1_code 61 = .ok (.iconst 0, 1) := by decide +kernel
theorem dd_Tokens_init_62 : decode prog_10_method_1_code 62 = .ok (.putfield 37, 3) := by decide +kernel
theorem dd_Tokens_init_65 : decode prog_10_method_1_code 65 = .ok (.return_, 1) := by decide +kernel
def jx_Tokens_init (p0 : Option Nat) : sf_M (Unit) :=
  sf_bnd (sf_rc 9 p0 (sf_ret ())) fun _ =>
  sf_bnd (sf_newA 0 (400 : Int32)) fun x1 =>
  sf_bnd (sf_pR 9 0 p0 x1) fun _ =>
  sf_bnd (sf_newA 0 (401 : Int32)) fun x2 =>
  sf_bnd (sf_pR 9 1 p0 x2) fun _ =>
  sf_bnd (sf_newA 0 (401 : Int32)) fun x3 =>
  sf_bnd (sf_pR 9 2 p0 x3) fun _ =>
  sf_bnd (sf_newA 0 (401 : Int32)) fun x4 =>
  sf_bnd (sf_pR 9 3 p0 x4) fun _ =>
  sf_bnd (sf_pI 9 4 p0 (0 : Int32)) fun _ =>
  sf_bnd (sf_pI 9 5 p0 (0 : Int32)) fun _ =>
  sf_bnd (sf_pI 9 6 p0 (0 : Int32)) fun _ =>
  sf_bnd (sf_pI 9 7 p0 (0 : Int32)) fun _ =>
  sf_bnd (sf_pI 9 8 p0 (0 : Int32)) fun _ =>
  sf_ret ()
set_option maxRecDepth 20000 in
set_option maxHeartbeats 4000000 in
theorem ok_Tokens_init (p0 : Option Nat) : sf_Ok ({ cls := "SplitFares$Tokens", name := "<init>", desc := "()V" } : Jvm.MethodName) prog_10_method_1_code 1 none 1 [sf_rv p0] (jx_Tokens_init p0) (fun _ => none) := by
  refine sf_Ok.of (env := [some (sf_rv p0)]) (plainFor_of_name (by decide)) [false] (fun G => ⟨pk_r, trivial⟩) (Nat.le_of_ble_eq_true rfl) rfl (fun X => ?_)
  unfold jx_Tokens_init
  refine fp_aload_n (i := 0) (r := p0) dd_Tokens_init_0 rfl rfl (fr_pc (pc' := 1) rfl ?_)
  refine fr_obj (ci := 9) (by decide) sw_270 sw_27 sw_28 (Nat.le_of_ble_eq_true rfl) (Nat.le_of_ble_eq_true rfl) dd_Tokens_init_1 (fr_pc (pc' := 4) rfl ?_)
  refine fp_aload_n (i := 0) (r := p0) dd_Tokens_init_4 rfl rfl (fr_pc (pc' := 5) rfl ?_)
  refine fp_sipush (v := (400 : Int32)) dd_Tokens_init_5 (by decide) (fr_pc (pc' := 8) rfl ?_)
  refine fr_newI dd_Tokens_init_8 (fun x1 => fr_pc (pc' := 10) rfl ?_)
  refine fr_pRg cl_9 0 (by decide) rfl sw_271 (Or.inr ⟨rfl, rfl, rfl⟩) (Or.inr ⟨_, rfl⟩) dd_Tokens_init_10 (fr_pc (pc' := 13) rfl ?_)
  refine fp_aload_n (i := 0) (r := p0) dd_Tokens_init_13 rfl rfl (fr_pc (pc' := 14) rfl ?_)
  refine fp_sipush (v := (401 : Int32)) dd_Tokens_init_14 (by decide) (fr_pc (pc' := 17) rfl ?_)
  refine fr_newI dd_Tokens_init_17 (fun x2 => fr_pc (pc' := 19) rfl ?_)
  refine fr_pRg cl_9 1 (by decide) rfl sw_272 (Or.inr ⟨rfl, rfl, rfl⟩) (Or.inr ⟨_, rfl⟩) dd_Tokens_init_19 (fr_pc (pc' := 22) rfl ?_)
  refine fp_aload_n (i := 0) (r := p0) dd_Tokens_init_22 rfl rfl (fr_pc (pc' := 23) rfl ?_)
  refine fp_sipush (v := (401 : Int32)) dd_Tokens_init_23 (by decide) (fr_pc (pc' := 26) rfl ?_)
  refine fr_newI dd_Tokens_init_26 (fun x3 => fr_pc (pc' := 28) rfl ?_)
  refine fr_pRg cl_9 2 (by decide) rfl sw_273 (Or.inr ⟨rfl, rfl, rfl⟩) (Or.inr ⟨_, rfl⟩) dd_Tokens_init_28 (fr_pc (pc' := 31) rfl ?_)
  refine fp_aload_n (i := 0) (r := p0) dd_Tokens_init_31 rfl rfl (fr_pc (pc' := 32) rfl ?_)
  refine fp_sipush (v := (401 : Int32)) dd_Tokens_init_32 (by decide) (fr_pc (pc' := 35) rfl ?_)
  refine fr_newI dd_Tokens_init_35 (fun x4 => fr_pc (pc' := 37) rfl ?_)
  refine fr_pRg cl_9 3 (by decide) rfl sw_274 (Or.inr ⟨rfl, rfl, rfl⟩) (Or.inr ⟨_, rfl⟩) dd_Tokens_init_37 (fr_pc (pc' := 40) rfl ?_)
  refine fp_aload_n (i := 0) (r := p0) dd_Tokens_init_40 rfl rfl (fr_pc (pc' := 41) rfl ?_)
  refine fp_iconst (v := (0 : Int32)) dd_Tokens_init_41 (by decide) (fr_pc (pc' := 42) rfl ?_)
  refine fr_pI cl_9 4 (by decide) rfl sw_275 rfl ⟨rfl, rfl⟩ dd_Tokens_init_42 (fr_pc (pc' := 45) rfl ?_)
  refine fp_aload_n (i := 0) (r := p0) dd_Tokens_init_45 rfl rfl (fr_pc (pc' := 46) rfl ?_)
  refine fp_iconst (v := (0 : Int32)) dd_Tokens_init_46 (by decide) (fr_pc (pc' := 47) rfl ?_)
  refine fr_pI cl_9 5 (by decide) rfl sw_276 rfl ⟨rfl, rfl⟩ dd_Tokens_init_47 (fr_pc (pc' := 50) rfl ?_)
  refine fp_aload_n (i := 0) (r := p0) dd_Tokens_init_50 rfl rfl (fr_pc (pc' := 51) rfl ?_)
  refine fp_iconst (v := (0 : Int32)) dd_Tokens_init_51 (by decide) (fr_pc (pc' := 52) rfl ?_)
  refine fr_pI cl_9 6 (by decide) rfl sw_277 rfl ⟨rfl, rfl⟩ dd_Tokens_init_52 (fr_pc (pc' := 55) rfl ?_)
  refine fp_aload_n (i := 0) (r := p0) dd_Tokens_init_55 rfl rfl (fr_pc (pc' := 56) rfl ?_)
  refine fp_iconst (v := (0 : Int32)) dd_Tokens_init_56 (by decide) (fr_pc (pc' := 57) rfl ?_)
  refine fr_pI cl_9 7 (by decide) rfl sw_278 rfl ⟨rfl, rfl⟩ dd_Tokens_init_57 (fr_pc (pc' := 60) rfl ?_)
  refine fp_aload_n (i := 0) (r := p0) dd_Tokens_init_60 rfl rfl (fr_pc (pc' := 61) rfl ?_)
  refine fp_iconst (v := (0 : Int32)) dd_Tokens_init_61 (by decide) (fr_pc (pc' := 62) rfl ?_)
  refine fr_pI cl_9 8 (by decide) rfl sw_279 rfl ⟨rfl, rfl⟩ dd_Tokens_init_62 (fr_pc (pc' := 65) rfl ?_)
  exact fr_vret rfl rfl dd_Tokens_init_65
theorem mt_Tokens_kindOf : sf_Mt ({ cls := "SplitFares$Tokens", name := "kindOf", desc := "(I)I" } : Jvm.MethodName) prog_10_method_3_code 1 (some .int) 1 := ⟨sw_534, sw_11, ⟨by decide, by decide, by decide +kernel⟩, by decide⟩
theorem dd_Tokens_kindOf_0 : decode prog_10_method_3_code 0 = .ok (.iload_n 0, 1) := by decide +kernel
theorem dd_Tokens_kindOf_1 : decode prog_10_method_3_code 1 = .ok (.bipush 97, 2) := by decide +kernel
theorem dd_Tokens_kindOf_3 : decode prog_10_method_3_code 3 = .ok (.if_icmp .lt 11, 3) := by decide +kernel
theorem dd_Tokens_kindOf_6 : decode prog_10_method_3_code 6 = .ok (.iload_n 0, 1) := by decide +kernel
theorem dd_Tokens_kindOf_7 : decode prog_10_method_3_code 7 = .ok (.bipush 122, 2) := by decide +kernel
theorem dd_Tokens_kindOf_9 : decode prog_10_method_3_code 9 = .ok (.if_icmp .gt 5, 3) := by decide +kernel
theorem dd_Tokens_kindOf_12 : decode prog_10_method_3_code 12 = .ok (.iconst 1, 1) := by decide +kernel
theorem dd_Tokens_kindOf_13 : decode prog_10_method_3_code 13 = .ok (.ireturn, 1) := by decide +kernel
theorem dd_Tokens_kindOf_14 : decode prog_10_method_3_code 14 = .ok (.iload_n 0, 1) := by decide +kernel
theorem dd_Tokens_kindOf_15 : decode prog_10_method_3_code 15 = .ok (.bipush 48, 2) := by decide +kernel
theorem dd_Tokens_kindOf_17 : decode prog_10_method_3_code 17 = .ok (.if_icmp .lt 11, 3) := by decide +kernel
theorem dd_Tokens_kindOf_20 : decode prog_10_method_3_code 20 = .ok (.iload_n 0, 1) := by decide +kernel
theorem dd_Tokens_kindOf_21 : decode prog_10_method_3_code 21 = .ok (.bipush 57, 2) := by decide +kernel
theorem dd_Tokens_kindOf_23 : decode prog_10_method_3_code 23 = .ok (.if_icmp .gt 5, 3) := by decide +kernel
theorem dd_Tokens_kindOf_26 : decode prog_10_method_3_code 26 = .ok (.iconst 2, 1) := by decide +kernel
theorem dd_Tokens_kindOf_27 : decode prog_10_method_3_code 27 = .ok (.ireturn, 1) := by decide +kernel
theorem dd_Tokens_kindOf_28 : decode prog_10_method_3_code 28 = .ok (.iload_n 0, 1) := by decide +kernel
theorem dd_Tokens_kindOf_29 : decode prog_10_method_3_code 29 = .ok (.bipush 32, 2) := by decide +kernel
theorem dd_Tokens_kindOf_31 : decode prog_10_method_3_code 31 = .ok (.if_icmp .ne 7, 3) := by decide +kernel
theorem dd_Tokens_kindOf_34 : decode prog_10_method_3_code 34 = .ok (.iconst 4, 1) := by decide +kernel
theorem dd_Tokens_kindOf_35 : decode prog_10_method_3_code 35 = .ok (.goto 4, 3) := by decide +kernel
theorem dd_Tokens_kindOf_38 : decode prog_10_method_3_code 38 = .ok (.iconst 3, 1) := by decide +kernel
theorem dd_Tokens_kindOf_39 : decode prog_10_method_3_code 39 = .ok (.ireturn, 1) := by decide +kernel
def jx_Tokens_kindOf (p0 : Int32) : sf_M (Int32) :=
  sf_or (α := Int32) (β := (Unit)) (
  if p0 < (97 : Int32) then (
  sf_ret (.inr ())
  ) else (
  if (122 : Int32) < p0 then (
  sf_ret (.inr ())
  ) else (
  sf_ret (.inl (1 : Int32))
  )
  )
  ) (fun v3 =>
  sf_or (α := Int32) (β := (Unit)) (
  if p0 < (48 : Int32) then (
  sf_ret (.inr ())
  ) else (
  if (57 : Int32) < p0 then (
  sf_ret (.inr ())
  ) else (
  sf_ret (.inl (2 : Int32))
  )
  )
  ) (fun v6 =>
  if p0 = (32 : Int32) then (
  sf_ret (4 : Int32)
  ) else (
  sf_ret (3 : Int32)
  )
  )
  )
set_option maxRecDepth 20000 in
set_option maxHeartbeats 4000000 in
theorem ok_Tokens_kindOf (p0 : Int32) : sf_Ok ({ cls := "SplitFares$Tokens", name := "kindOf", desc := "(I)I" } : Jvm.MethodName) prog_10_method_3_code 1 (some .int) 0 [.int p0] (jx_Tokens_kindOf p0) (fun r => some (.int r)) := by
  refine sf_Ok.of (env := [some (.int p0)]) (plainFor_of_name (by decide)) [false] (fun G => ⟨pk_i, trivial⟩) (Nat.le_of_ble_eq_true rfl) rfl (fun X => ?_)
  unfold jx_Tokens_kindOf
  refine fp_iload_n (i := 0) (x := p0) dd_Tokens_kindOf_0 rfl rfl (fr_pc (pc' := 1) rfl ?_)
  refine fp_bipush (v := (97 : Int32)) dd_Tokens_kindOf_1 (by decide) (fr_pc (pc' := 3) rfl ?_)
  refine fr_or (l1 := (fun (v3 : (Unit)) => sf_p 14 [some (.int p0)] [])) ?_ (fun v3 => ?_)
  · refine fr_icmp_lt (tgt := 14) dd_Tokens_kindOf_3 rfl (fun _ => ?_) (fun _ => ?_)
    · exact fr_ret rfl
    · refine fr_pc (pc' := 6) rfl ?_
      refine fp_iload_n (i := 0) (x := p0) dd_Tokens_kindOf_6 rfl rfl (fr_pc (pc' := 7) rfl ?_)
      refine fp_bipush (v := (122 : Int32)) dd_Tokens_kindOf_7 (by decide) (fr_pc (pc' := 9) rfl ?_)
      refine fr_icmp_gt (tgt := 14) dd_Tokens_kindOf_9 rfl (fun _ => ?_) (fun _ => ?_)
      · exact fr_ret rfl
      · refine fr_pc (pc' := 12) rfl ?_
        refine fp_iconst (v := (1 : Int32)) dd_Tokens_kindOf_12 (by decide) (fr_pc (pc' := 13) rfl ?_)
        exact fr_iret (v := (1 : Int32)) rfl rfl dd_Tokens_kindOf_13
  · refine fp_iload_n (i := 0) (x := p0) dd_Tokens_kindOf_14 rfl rfl (fr_pc (pc' := 15) rfl ?_)
    refine fp_bipush (v := (48 : Int32)) dd_Tokens_kindOf_15 (by decide) (fr_pc (pc' := 17) rfl ?_)
    refine fr_or (l1 := (fun (v6 : (Unit)) => sf_p 28 [some (.int p0)] [])) ?_ (fun v6 => ?_)
    · refine fr_icmp_lt (tgt := 28) dd_Tokens_kindOf_17 rfl (fun _ => ?_) (fun _ => ?_)
      · exact fr_ret rfl
      · refine fr_pc (pc' := 20) rfl ?_
        refine fp_iload_n (i := 0) (x := p0) dd_Tokens_kindOf_20 rfl rfl (fr_pc (pc' := 21) rfl ?_)
        refine fp_bipush (v := (57 : Int32)) dd_Tokens_kindOf_21 (by decide) (fr_pc (pc' := 23) rfl ?_)
        refine fr_icmp_gt (tgt := 28) dd_Tokens_kindOf_23 rfl (fun _ => ?_) (fun _ => ?_)
        · exact fr_ret rfl
        · refine fr_pc (pc' := 26) rfl ?_
          refine fp_iconst (v := (2 : Int32)) dd_Tokens_kindOf_26 (by decide) (fr_pc (pc' := 27) rfl ?_)
          exact fr_iret (v := (2 : Int32)) rfl rfl dd_Tokens_kindOf_27
    · refine fp_iload_n (i := 0) (x := p0) dd_Tokens_kindOf_28 rfl rfl (fr_pc (pc' := 29) rfl ?_)
      refine fp_bipush (v := (32 : Int32)) dd_Tokens_kindOf_29 (by decide) (fr_pc (pc' := 31) rfl ?_)
      refine fr_icmp_ne (tgt := 38) dd_Tokens_kindOf_31 rfl (fun _ => ?_) (fun _ => ?_)
      · refine fr_pc (pc' := 34) rfl ?_
        refine fp_iconst (v := (4 : Int32)) dd_Tokens_kindOf_34 (by decide) (fr_pc (pc' := 35) rfl ?_)
        refine fp_goto (tgt := 39) dd_Tokens_kindOf_35 rfl ?_
        exact fr_iret (v := (4 : Int32)) rfl rfl dd_Tokens_kindOf_39
      · refine fp_iconst (v := (3 : Int32)) dd_Tokens_kindOf_38 (by decide) (fr_pc (pc' := 39) rfl ?_)
        exact fr_iret (v := (3 : Int32)) rfl rfl dd_Tokens_kindOf_39
theorem mt_Tokens_look : sf_Mt ({ cls := "SplitFares$Tokens", name := "look", desc := "(I)V" } : Jvm.MethodName) prog_10_method_4_code 2 none 1 := ⟨sw_538, sw_11, ⟨by decide, by decide, by decide +kernel⟩, by decide⟩
theorem dd_Tokens_look_0 : decode prog_10_method_4_code 0 = .ok (.iload_n 1, 1) := by decide +kernel
theorem dd_Tokens_look_1 : decode prog_10_method_4_code 1 = .ok (.ifCond .lt 55, 3) := by decide +kernel
theorem dd_Tokens_look_4 : decode prog_10_method_4_code 4 = .ok (.iload_n 1, 1) := by decide +kernel
theorem dd_Tokens_look_5 : decode prog_10_method_4_code 5 = .ok (.aload_n 0, 1) := by decide +kernel
theorem dd_Tokens_look_6 : decode prog_10_method_4_code 6 = .ok (.getfield 24, 3) := by decide +kernel
theorem dd_Tokens_look_9 : decode prog_10_method_4_code 9 = .ok (.if_icmp .gt 47, 3) := by decide +kernel
theorem dd_Tokens_look_12 : decode prog_10_method_4_code 12 = .ok (.iload_n 1, 1) := by decide +kernel
theorem dd_Tokens_look_13 : decode prog_10_method_4_code 13 = .ok (.aload_n 0, 1) := by decide +kernel
theorem dd_Tokens_look_14 : decode prog_10_method_4_code 14 = .ok (.getfield 15, 3) := by decide +kernel
theorem dd_Tokens_look_17 : decode prog_10_method_4_code 17 = .ok (.arraylength, 1) := by decide +kernel
theorem dd_Tokens_look_18 : decode prog_10_method_4_code 18 = .ok (.if_icmp .ge 38, 3) := by decide +kernel
theorem dd_Tokens_look_21 : decode prog_10_method_4_code 21 = .ok (.aload_n 0, 1) := by decide +kernel
theorem dd_Tokens_look_22 : decode prog_10_method_4_code 22 = .ok (.iload_n 1, 1) := by decide +kernel
theorem dd_Tokens_look_23 : decode prog_10_method_4_code 23 = .ok (.putfield 28, 3) := by decide +kernel
theorem dd_Tokens_look_26 : decode prog_10_method_4_code 26 = .ok (.aload_n 0, 1) := by decide +kernel
theorem dd_Tokens_look_27 : decode prog_10_method_4_code 27 = .ok (.aload_n 0, 1) := by decide +kernel
theorem dd_Tokens_look_28 : decode prog_10_method_4_code 28 = .ok (.getfield 15, 3) := by decide +kernel
theorem dd_Tokens_look_31 : decode prog_10_method_4_code 31 = .ok (.iload_n 1, 1) := by decide +kernel
theorem dd_Tokens_look_32 : decode prog_10_method_4_code 32 = .ok (.iaload, 1) := by decide +kernel
theorem dd_Tokens_look_33 : decode prog_10_method_4_code 33 = .ok (.putfield 31, 3) := by decide +kernel
theorem dd_Tokens_look_36 : decode prog_10_method_4_code 36 = .ok (.aload_n 0, 1) := by decide +kernel
theorem dd_Tokens_look_37 : decode prog_10_method_4_code 37 = .ok (.aload_n 0, 1) := by decide +kernel
theorem dd_Tokens_look_38 : decode prog_10_method_4_code 38 = .ok (.getfield 18, 3) := by decide +kernel
theorem dd_Tokens_look_41 : decode prog_10_method_4_code 41 = .ok (.iload_n 1, 1) := by decide +kernel
theorem dd_Tokens_look_42 : decode prog_10_method_4_code 42 = .ok (.iaload, 1) := by decide +kernel
theorem dd_Tokens_look_43 : decode prog_10_method_4_code 43 = .ok (.putfield 34, 3) := by decide +kernel
theorem dd_Tokens_look_46 : decode prog_10_method_4_code 46 = .ok (.aload_n 0, 1) := by decide +kernel
theorem dd_Tokens_look_47 : decode prog_10_method_4_code 47 = .ok (.aload_n 0, 1) := by decide +kernel
theorem dd_Tokens_look_48 : decode prog_10_method_4_code 48 = .ok (.getfield 21, 3) := by decide +kernel
theorem dd_Tokens_look_51 : decode prog_10_method_4_code 51 = .ok (.iload_n 1, 1) := by decide +kernel
theorem dd_Tokens_look_52 : decode prog_10_method_4_code 52 = .ok (.iaload, 1) := by decide +kernel
theorem dd_Tokens_look_53 : decode prog_10_method_4_code 53 = .ok (.putfield 37, 3) := by decide +kernel
theorem dd_Tokens_look_56 : decode prog_10_method_4_code 56 = .ok (.return_, 1) := by decide +kernel
def jx_Tokens_look (p0 : Option Nat) (p1 : Int32) : sf_M (Unit) :=
  if p1 < 0 then (
  sf_ret ()
  ) else (
  sf_bnd (sf_gI 9 4 p0) fun x2 =>
  if x2 < p1 then (
  sf_ret ()
  ) else (
  sf_bnd (sf_gR 9 1 p0) fun x4 =>
  sf_bnd (sf_len x4) fun x5 =>
  if x5 ≤ p1 then (
  sf_ret ()
  ) else (
  sf_bnd (sf_pI 9 5 p0 p1) fun _ =>
  sf_bnd (sf_gR 9 1 p0) fun x7 =>
  sf_bnd (sf_aI 0 x7 p1) fun x8 =>
  sf_bnd (sf_pI 9 6 p0 x8) fun _ =>
  sf_bnd (sf_gR 9 2 p0) fun x9 =>
  sf_bnd (sf_aI 0 x9 p1) fun x10 =>
  sf_bnd (sf_pI 9 7 p0 x10) fun _ =>
  sf_bnd (sf_gR 9 3 p0) fun x11 =>
  sf_bnd (sf_aI 0 x11 p1) fun x12 =>
  sf_bnd (sf_pI 9 8 p0 x12) fun _ =>
  sf_ret ()
  )
  )
  )
set_option maxRecDepth 20000 in
set_option maxHeartbeats 4000000 in
theorem ok_Tokens_look (p0 : Option Nat) (p1 : Int32) : sf_Ok ({ cls := "SplitFares$Tokens", name := "look", desc := "(I)V" } : Jvm.MethodName) prog_10_method_4_code 2 none 0 [sf_rv p0, .int p1] (jx_Tokens_look p0 p1) (fun _ => none) := by
  refine sf_Ok.of (env := [some (sf_rv p0), some (.int p1)]) (plainFor_of_name (by decide)) [false, false] (fun G => ⟨pk_r, pk_i, trivial⟩) (Nat.le_of_ble_eq_true rfl) rfl (fun X => ?_)
  unfold jx_Tokens_look
  refine fp_iload_n (i := 1) (x := p1) dd_Tokens_look_0 rfl rfl (fr_pc (pc' := 1) rfl ?_)
  refine fr_if_lt (tgt := 56) dd_Tokens_look_1 rfl (fun _ => ?_) (fun _ => ?_)
  · exact fr_vret rfl rfl dd_Tokens_look_56
  · refine fr_pc (pc' := 4) rfl ?_
    refine fp_iload_n (i := 1) (x := p1) dd_Tokens_look_4 rfl rfl (fr_pc (pc' := 5) rfl ?_)
    refine fp_aload_n (i := 0) (r := p0) dd_Tokens_look_5 rfl rfl (fr_pc (pc' := 6) rfl ?_)
    refine fr_gI cl_9 4 (by decide) rfl sw_275 dd_Tokens_look_6 (fun x2 => fr_pc (pc' := 9) rfl ?_)
    refine fr_icmp_gt (tgt := 56) dd_Tokens_look_9 rfl (fun _ => ?_) (fun _ => ?_)
    · exact fr_vret rfl rfl dd_Tokens_look_56
    · refine fr_pc (pc' := 12) rfl ?_
      refine fp_iload_n (i := 1) (x := p1) dd_Tokens_look_12 rfl rfl (fr_pc (pc' := 13) rfl ?_)
      refine fp_aload_n (i := 0) (r := p0) dd_Tokens_look_13 rfl rfl (fr_pc (pc' := 14) rfl ?_)
      refine fr_gR cl_9 1 (by decide) rfl sw_272 dd_Tokens_look_14 (fun x4 => fr_pc (pc' := 17) rfl ?_)
      refine fr_len dd_Tokens_look_17 (fun x5 => fr_pc (pc' := 18) rfl ?_)
      refine fr_icmp_ge (tgt := 56) dd_Tokens_look_18 rfl (fun _ => ?_) (fun _ => ?_)
      · exact fr_vret rfl rfl dd_Tokens_look_56
      · refine fr_pc (pc' := 21) rfl ?_
        refine fp_aload_n (i := 0) (r := p0) dd_Tokens_look_21 rfl rfl (fr_pc (pc' := 22) rfl ?_)
        refine fp_iload_n (i := 1) (x := p1) dd_Tokens_look_22 rfl rfl (fr_pc (pc' := 23) rfl ?_)
        refine fr_pI cl_9 5 (by decide) rfl sw_276 rfl ⟨rfl, rfl⟩ dd_Tokens_look_23 (fr_pc (pc' := 26) rfl ?_)
        refine fp_aload_n (i := 0) (r := p0) dd_Tokens_look_26 rfl rfl (fr_pc (pc' := 27) rfl ?_)
        refine fp_aload_n (i := 0) (r := p0) dd_Tokens_look_27 rfl rfl (fr_pc (pc' := 28) rfl ?_)
        refine fr_gR cl_9 1 (by decide) rfl sw_272 dd_Tokens_look_28 (fun x7 => fr_pc (pc' := 31) rfl ?_)
        refine fp_iload_n (i := 1) (x := p1) dd_Tokens_look_31 rfl rfl (fr_pc (pc' := 32) rfl ?_)
        refine fr_aI0 dd_Tokens_look_32 (fun x8 => fr_pc (pc' := 33) rfl ?_)
        refine fr_pI cl_9 6 (by decide) rfl sw_277 rfl ⟨rfl, rfl⟩ dd_Tokens_look_33 (fr_pc (pc' := 36) rfl ?_)
        refine fp_aload_n (i := 0) (r := p0) dd_Tokens_look_36 rfl rfl (fr_pc (pc' := 37) rfl ?_)
        refine fp_aload_n (i := 0) (r := p0) dd_Tokens_look_37 rfl rfl (fr_pc (pc' := 38) rfl ?_)
        refine fr_gR cl_9 2 (by decide) rfl sw_273 dd_Tokens_look_38 (fun x9 => fr_pc (pc' := 41) rfl ?_)
        refine fp_iload_n (i := 1) (x := p1) dd_Tokens_look_41 rfl rfl (fr_pc (pc' := 42) rfl ?_)
        refine fr_aI0 dd_Tokens_look_42 (fun x10 => fr_pc (pc' := 43) rfl ?_)
        refine fr_pI cl_9 7 (by decide) rfl sw_278 rfl ⟨rfl, rfl⟩ dd_Tokens_look_43 (fr_pc (pc' := 46) rfl ?_)
        refine fp_aload_n (i := 0) (r := p0) dd_Tokens_look_46 rfl rfl (fr_pc (pc' := 47) rfl ?_)
        refine fp_aload_n (i := 0) (r := p0) dd_Tokens_look_47 rfl rfl (fr_pc (pc' := 48) rfl ?_)
        refine fr_gR cl_9 3 (by decide) rfl sw_274 dd_Tokens_look_48 (fun x11 => fr_pc (pc' := 51) rfl ?_)
        refine fp_iload_n (i := 1) (x := p1) dd_Tokens_look_51 rfl rfl (fr_pc (pc' := 52) rfl ?_)
        refine fr_aI0 dd_Tokens_look_52 (fun x12 => fr_pc (pc' := 53) rfl ?_)
        refine fr_pI cl_9 8 (by decide) rfl sw_279 rfl ⟨rfl, rfl⟩ dd_Tokens_look_53 (fr_pc (pc' := 56) rfl ?_)
        exact fr_vret rfl rfl dd_Tokens_look_56
theorem mt_Tokens_scan : sf_Mt ({ cls := "SplitFares$Tokens", name := "scan", desc := "(LSplitFares$Tape;)V" } : Jvm.MethodName) prog_10_method_2_code 7 none 1 := ⟨sw_529, sw_11, ⟨by decide, by decide, by decide +kernel⟩, by decide⟩
theorem dd_Tokens_scan_0 : decode prog_10_method_2_code 0 = .ok (.aload_n 1, 1) := by decide +kernel
theorem dd_Tokens_scan_1 : decode prog_10_method_2_code 1 = .ok (.getfield 40, 3) := by decide +kernel
theorem dd_Tokens_scan_4 : decode prog_10_method_2_code 4 = .ok (.sipush 400, 3) := by decide +kernel
theorem dd_Tokens_scan_7 : decode prog_10_method_2_code 7 = .ok (.invokestatic 45, 3) := by decide +kernel
theorem dd_Tokens_scan_10 : decode prog_10_method_2_code 10 = .ok (.istore_n 2, 1) := by decide +kernel
theorem dd_Tokens_scan_11 : decode prog_10_method_2_code 11 = .ok (.aload_n 0, 1) := by decide +kernel
theorem dd_Tokens_scan_12 : decode prog_10_method_2_code 12 = .ok (.iconst 0, 1) := by decide +kernel
theorem dd_Tokens_scan_13 : decode prog_10_method_2_code 13 = .ok (.putfield 24, 3) := by decide +kernel
theorem dd_Tokens_scan_16 : decode prog_10_method_2_code 16 = .ok (.iconst 4, 1) := by decide +kernel
theorem dd_Tokens_scan_17 : decode prog_10_method_2_code 17 = .ok (.istore_n 3, 1) := by decide +kernel
theorem dd_Tokens_scan_18 : decode prog_10_method_2_code 18 = .ok (.iconst 0, 1) := by decide +kernel
theorem dd_Tokens_scan_19 : decode prog_10_method_2_code 19 = .ok (.istore 4, 2) := by decide +kernel
theorem dd_Tokens_scan_21 : decode prog_10_method_2_code 21 = .ok (.iload 4, 2) := by decide +kernel
theorem dd_Tokens_scan_23 : decode prog_10_method_2_code 23 = .ok (.iload_n 2, 1) := by decide +kernel
theorem dd_Tokens_scan_24 : decode prog_10_method_2_code 24 = .ok (.if_icmp .ge 143, 3) := by decide +kernel
theorem dd_Tokens_scan_27 : decode prog_10_method_2_code 27 = .ok (.aload_n 0, 1) := by decide +kernel
theorem dd_Tokens_scan_28 : decode prog_10_method_2_code 28 = .ok (.getfield 9, 3) := by decide +kernel
theorem dd_Tokens_scan_31 : decode prog_10_method_2_code 31 = .ok (.iload 4, 2) := by decide +kernel
theorem dd_Tokens_scan_33 : decode prog_10_method_2_code 33 = .ok (.aload_n 1, 1) := by decide +kernel
theorem dd_Tokens_scan_34 : decode prog_10_method_2_code 34 = .ok (.iload 4, 2) := by decide +kernel
theorem dd_Tokens_scan_36 : decode prog_10_method_2_code 36 = .ok (.invokevirtual 51, 3) := by decide +kernel
theorem dd_Tokens_scan_39 : decode prog_10_method_2_code 39 = .ok (.iastore, 1) := by decide +kernel
theorem dd_Tokens_scan_40 : decode prog_10_method_2_code 40 = .ok (.aload_n 0, 1) := by decide +kernel
theorem dd_Tokens_scan_41 : decode prog_10_method_2_code 41 = .ok (.getfield 9, 3) := by decide +kernel
theorem dd_Tokens_scan_44 : decode prog_10_method_2_code 44 = .ok (.iload 4, 2) := by decide +kernel
theorem dd_Tokens_scan_46 : decode prog_10_method_2_code 46 = .ok (.iaload, 1) := by decide +kernel
theorem dd_Tokens_scan_47 : decode prog_10_method_2_code 47 = .ok (.invokestatic 55, 3) := by decide +kernel
theorem dd_Tokens_scan_50 : decode prog_10_method_2_code 50 = .ok (.istore 5, 2) := by decide +kernel
theorem dd_Tokens_scan_52 : decode prog_10_method_2_code 52 = .ok (.iload 5, 2) := by decide +kernel
theorem dd_Tokens_scan_54 : decode prog_10_method_2_code 54 = .ok (.iload_n 3, 1) := by decide +kernel
theorem dd_Tokens_scan_55 : decode prog_10_method_2_code 55 = .ok (.if_icmp .ne 19, 3) := by decide +kernel
theorem dd_Tokens_scan_58 : decode prog_10_method_2_code 58 = .ok (.iload 5, 2) := by decide +kernel
theorem dd_Tokens_scan_60 : decode prog_10_method_2_code 60 = .ok (.iconst 1, 1) := by decide +kernel
theorem dd_Tokens_scan_61 : decode prog_10_method_2_code 61 = .ok (.if_icmp .eq 9, 3) := by decide +kernel
theorem dd_Tokens_scan_64 : decode prog_10_method_2_code 64 = .ok (.iload 5, 2) := by decide +kernel
theorem dd_Tokens_scan_66 : decode prog_10_method_2_code 66 = .ok (.iconst 2, 1) := by decide +kernel
theorem dd_Tokens_scan_67 : decode prog_10_method_2_code 67 = .ok (.if_icmp .ne 7, 3) := by decide +kernel
theorem dd_Tokens_scan_70 : decode prog_10_method_2_code 70 = .ok (.iconst 1, 1) := by decide +kernel
theorem dd_Tokens_scan_71 : decode prog_10_method_2_code 71 = .ok (.goto 4, 3) := by decide +kernel
theorem dd_Tokens_scan_74 : decode prog_10_method_2_code 74 = .ok (.iconst 0, 1) := by decide +kernel
theorem dd_Tokens_scan_75 : decode prog_10_method_2_code 75 = .ok (.istore 6, 2) := by decide +kernel
theorem dd_Tokens_scan_77 : decode prog_10_method_2_code 77 = .ok (.iload 5, 2) := by decide +kernel
theorem dd_Tokens_scan_79 : decode prog_10_method_2_code 79 = .ok (.iconst 4, 1) := by decide +kernel
theorem dd_Tokens_scan_80 : decode prog_10_method_2_code 80 = .ok (.if_icmp .eq 50, 3) := by decide +kernel
theorem dd_Tokens_scan_83 : decode prog_10_method_2_code 83 = .ok (.iload 6, 2) := by decide +kernel
theorem dd_Tokens_scan_85 : decode prog_10_method_2_code 85 = .ok (.ifCond .ne 45, 3) := by decide +kernel
theorem dd_Tokens_scan_88 : decode prog_10_method_2_code 88 = .ok (.aload_n 0, 1) := by decide +kernel
theorem dd_Tokens_scan_89 : decode prog_10_method_2_code 89 = .ok (.getfield 24, 3) := by decide +kernel
theorem dd_Tokens_scan_92 : decode prog_10_method_2_code 92 = .ok (.sipush 400, 3) := by decide +kernel
theorem dd_Tokens_scan_95 : decode prog_10_method_2_code 95 = .ok (.if_icmp .ge 35, 3) := by decide +kernel
theorem dd_Tokens_scan_98 : decode prog_10_method_2_code 98 = .ok (.aload_n 0, 1) := by decide +kernel
theorem dd_Tokens_scan_99 : decode prog_10_method_2_code 99 = .ok (.getfield 15, 3) := by decide +kernel
theorem dd_Tokens_scan_102 : decode prog_10_method_2_code 102 = .ok (.aload_n 0, 1) := by decide +kernel
theorem dd_Tokens_scan_103 : decode prog_10_method_2_code 103 = .ok (.getfield 24, 3) := by decide +kernel
theorem dd_Tokens_scan_106 : decode prog_10_method_2_code 106 = .ok (.iload 5, 2) := by decide +kernel
theorem dd_Tokens_scan_108 : decode prog_10_method_2_code 108 = .ok (.iastore, 1) := by decide +kernel
theorem dd_Tokens_scan_109 : decode prog_10_method_2_code 109 = .ok (.aload_n 0, 1) := by decide +kernel
theorem dd_Tokens_scan_110 : decode prog_10_method_2_code 110 = .ok (.getfield 18, 3) := by decide +kernel
theorem dd_Tokens_scan_113 : decode prog_10_method_2_code 113 = .ok (.aload_n 0, 1) := by decide +kernel
theorem dd_Tokens_scan_114 : decode prog_10_method_2_code 114 = .ok (.getfield 24, 3) := by decide +kernel
theorem dd_Tokens_scan_117 : decode prog_10_method_2_code 117 = .ok (.iload 4, 2) := by decide +kernel
theorem dd_Tokens_scan_119 : decode prog_10_method_2_code 119 = .ok (.iastore, 1) := by decide +kernel
theorem dd_Tokens_scan_120 : decode prog_10_method_2_code 120 = .ok (.aload_n 0, 1) := by decide +kernel
theorem dd_Tokens_scan_121 : decode prog_10_method_2_code 121 = .ok (.dup, 1) := by decide +kernel
theorem dd_Tokens_scan_122 : decode prog_10_method_2_code 122 = .ok (.getfield 24, 3) := by decide +kernel
theorem dd_Tokens_scan_125 : decode prog_10_method_2_code 125 = .ok (.iconst 1, 1) := by decide +kernel
theorem dd_Tokens_scan_126 : decode prog_10_method_2_code 126 = .ok (.iadd, 1) := by decide +kernel
theorem dd_Tokens_scan_127 : decode prog_10_method_2_code 127 = .ok (.putfield 24, 3) := by decide +kernel
theorem dd_Tokens_scan_130 : decode prog_10_method_2_code 130 = .ok (.iload 5, 2) := by decide +kernel
theorem dd_Tokens_scan_132 : decode prog_10_method_2_code 132 = .ok (.iconst 4, 1) := by decide +kernel
theorem dd_Tokens_scan_133 : decode prog_10_method_2_code 133 = .ok (.if_icmp .eq 25, 3) := by decide +kernel
theorem dd_Tokens_scan_136 : decode prog_10_method_2_code 136 = .ok (.aload_n 0, 1) := by decide +kernel
theorem dd_Tokens_scan_137 : decode prog_10_method_2_code 137 = .ok (.getfield 24, 3) := by decide +kernel
theorem dd_Tokens_scan_140 : decode prog_10_method_2_code 140 = .ok (.ifCond .le 18, 3) := by decide +kernel
theorem dd_Tokens_scan_143 : decode prog_10_method_2_code 143 = .ok (.aload_n 0, 1) := by decide +kernel
theorem dd_Tokens_scan_144 : decode prog_10_method_2_code 144 = .ok (.getfield 21, 3) := by decide +kernel
theorem dd_Tokens_scan_147 : decode prog_10_method_2_code 147 = .ok (.aload_n 0, 1) := by decide +kernel
theorem dd_Tokens_scan_148 : decode prog_10_method_2_code 148 = .ok (.getfield 24, 3) := by decide +kernel
theorem dd_Tokens_scan_151 : decode prog_10_method_2_code 151 = .ok (.iconst 1, 1) := by decide +kernel
theorem dd_Tokens_scan_152 : decode prog_10_method_2_code 152 = .ok (.isub, 1) := by decide +kernel
theorem dd_Tokens_scan_153 : decode prog_10_method_2_code 153 = .ok (.iload 4, 2) := by decide +kernel
theorem dd_Tokens_scan_155 : decode prog_10_method_2_code 155 = .ok (.iconst 1, 1) := by decide +kernel
theorem dd_Tokens_scan_156 : decode prog_10_method_2_code 156 = .ok (.iadd, 1) := by decide +kernel
theorem dd_Tokens_scan_157 : decode prog_10_method_2_code 157 = .ok (.iastore, 1) := by decide +kernel
theorem dd_Tokens_scan_158 : decode prog_10_method_2_code 158 = .ok (.iload 5, 2) := by decide +kernel
theorem dd_Tokens_scan_160 : decode prog_10_method_2_code 160 = .ok (.istore_n 3, 1) := by decide +kernel
theorem dd_Tokens_scan_161 : decode prog_10_method_2_code 161 = .ok (.iinc 4 1, 3) := by decide +kernel
theorem dd_Tokens_scan_164 : decode prog_10_method_2_code 164 = .ok (.goto (-143), 3) := by decide +kernel
theorem dd_Tokens_scan_167 : decode prog_10_method_2_code 167 = .ok (.aload_n 0, 1) := by decide +kernel
theorem dd_Tokens_scan_168 : decode prog_10_method_2_code 168 = .ok (.getfield 15, 3) := by decide +kernel
theorem dd_Tokens_scan_171 : decode prog_10_method_2_code 171 = .ok (.aload_n 0, 1) := by decide +kernel
theorem dd_Tokens_scan_172 : decode prog_10_method_2_code 172 = .ok (.getfield 24, 3) := by decide +kernel
theorem dd_Tokens_scan_175 : decode prog_10_method_2_code 175 = .ok (.iconst 0, 1) := by decide +kernel
theorem dd_Tokens_scan_176 : decode prog_10_method_2_code 176 = .ok (.iastore, 1) := by decide +kernel
theorem dd_Tokens_scan_177 : decode prog_10_method_2_code 177 = .ok (.aload_n 0, 1) := by decide +kernel
theorem dd_Tokens_scan_178 : decode prog_10_method_2_code 178 = .ok (.getfield 18, 3) := by decide +kernel
theorem dd_Tokens_scan_181 : decode prog_10_method_2_code 181 = .ok (.aload_n 0, 1) := by decide +kernel
theorem dd_Tokens_scan_182 : decode prog_10_method_2_code 182 = .ok (.getfield 24, 3) := by decide +kernel
theorem dd_Tokens_scan_185 : decode prog_10_method_2_code 185 = .ok (.iload_n 2, 1) := by decide +kernel
theorem dd_Tokens_scan_186 : decode prog_10_method_2_code 186 = .ok (.iastore, 1) := by decide +kernel
theorem dd_Tokens_scan_187 : decode prog_10_method_2_code 187 = .ok (.aload_n 0, 1) := by decide +kernel
theorem dd_Tokens_scan_188 : decode prog_10_method_2_code 188 = .ok (.getfield 21, 3) := by decide +kernel
theorem dd_Tokens_scan_191 : decode prog_10_method_2_code 191 = .ok (.aload_n 0, 1) := by decide +kernel
theorem dd_Tokens_scan_192 : decode prog_10_method_2_code 192 = .ok (.getfield 24, 3) := by decide +kernel
theorem dd_Tokens_scan_195 : decode prog_10_method_2_code 195 = .ok (.iload_n 2, 1) := by decide +kernel
theorem dd_Tokens_scan_196 : decode prog_10_method_2_code 196 = .ok (.iastore, 1) := by decide +kernel
theorem dd_Tokens_scan_197 : decode prog_10_method_2_code 197 = .ok (.aload_n 0, 1) := by decide +kernel
theorem dd_Tokens_scan_198 : decode prog_10_method_2_code 198 = .ok (.iconst 0, 1) := by decide +kernel
theorem dd_Tokens_scan_199 : decode prog_10_method_2_code 199 = .ok (.invokevirtual 58, 3) := by decide +kernel
theorem dd_Tokens_scan_202 : decode prog_10_method_2_code 202 = .ok (.return_, 1) := by decide +kernel
def jx_Tokens_scan (p0 : Option Nat) (p1 : Option Nat) : sf_M (Unit) :=
  sf_bnd (sf_gI 8 1 p1) fun x1 =>
  sf_bnd (jx_Math_min x1 (400 : Int32)) fun x2 =>
  sf_bnd (sf_pI 9 4 p0 (0 : Int32)) fun _ =>
  sf_bnd (sf_loop (β := (Int32 × Int32)) (γ := (Unit)) (fun b3 =>
  if x2 ≤ b3.2 then (
  sf_ret (.inr ())
  ) else (
  sf_bnd (sf_gR 9 0 p0) fun x5 =>
  sf_bnd (sf_rc 8 p1 (jx_Tape_at p1 b3.2)) fun x6 =>
  sf_bnd (sf_sI 0 x5 b3.2 x6) fun _ =>
  sf_bnd (sf_gR 9 0 p0) fun x7 =>
  sf_bnd (sf_aI 0 x7 b3.2) fun x8 =>
  sf_bnd (jx_Tokens_kindOf x8) fun x9 =>
  sf_bnd (α := (Int32)) (
  sf_or (α := (Int32)) (β := (Unit)) (
  if x9 = b3.1 then (
  if x9 = (1 : Int32) then (
  sf_ret (.inl (1 : Int32))
  ) else (
  if x9 = (2 : Int32) then (
  sf_ret (.inl (1 : Int32))
  ) else (
  sf_ret (.inr ())
  )
  )
  ) else (
  sf_ret (.inr ())
  )
  ) (fun v13 =>
  sf_ret (0 : Int32)
  )
  ) (fun v14 =>
  sf_bnd (α := (Unit)) (
  if x9 = (4 : Int32) then (
  sf_ret ()
  ) else (
  if v14 = 0 then (
  sf_bnd (sf_gI 9 4 p0) fun x17 =>
  if (400 : Int32) ≤ x17 then (
  sf_ret ()
  ) else (
  sf_bnd (sf_gR 9 1 p0) fun x19 =>
  sf_bnd (sf_gI 9 4 p0) fun x20 =>
  sf_bnd (sf_sI 0 x19 x20 x9) fun _ =>
  sf_bnd (sf_gR 9 2 p0) fun x21 =>
  sf_bnd (sf_gI 9 4 p0) fun x22 =>
  sf_bnd (sf_sI 0 x21 x22 b3.2) fun _ =>
  sf_bnd (sf_gI 9 4 p0) fun x23 =>
  sf_bnd (sf_pI 9 4 p0 (x23 + (1 : Int32))) fun _ =>
  sf_ret ()
  )
  ) else (
  sf_ret ()
  )
  )
  ) (fun v24 =>
  if x9 = (4 : Int32) then (
  sf_bnd (sf_ret (b3.2 + (1 : Int32))) fun y26 =>
  sf_ret (.inl (x9, y26))
  ) else (
  sf_bnd (sf_gI 9 4 p0) fun x27 =>
  if x27 ≤ 0 then (
  sf_bnd (sf_ret (b3.2 + (1 : Int32))) fun y29 =>
  sf_ret (.inl (x9, y29))
  ) else (
  sf_bnd (sf_gR 9 3 p0) fun x30 =>
  sf_bnd (sf_gI 9 4 p0) fun x31 =>
  sf_bnd (sf_sI 0 x30 (x31 - (1 : Int32)) (b3.2 + (1 : Int32))) fun _ =>
  sf_bnd (sf_ret (b3.2 + (1 : Int32))) fun y32 =>
  sf_ret (.inl (x9, y32))
  )
  )
  )
  )
  )
  ) sf_fuel ((4 : Int32), (0 : Int32))) (fun e33 =>
  sf_bnd (sf_gR 9 1 p0) fun x34 =>
  sf_bnd (sf_gI 9 4 p0) fun x35 =>
  sf_bnd (sf_sI 0 x34 x35 (0 : Int32)) fun _ =>
  sf_bnd (sf_gR 9 2 p0) fun x36 =>
  sf_bnd (sf_gI 9 4 p0) fun x37 =>
  sf_bnd (sf_sI 0 x36 x37 x2) fun _ =>
  sf_bnd (sf_gR 9 3 p0) fun x38 =>
  sf_bnd (sf_gI 9 4 p0) fun x39 =>
  sf_bnd (sf_sI 0 x38 x39 x2) fun _ =>
  sf_bnd (sf_rc 9 p0 (jx_Tokens_look p0 (0 : Int32))) fun _ =>
  sf_ret ()
  )
set_option maxRecDepth 20000 in
set_option maxHeartbeats 4000000 in
theorem ok_Tokens_scan (p0 : Option Nat) (p1 : Option Nat) : sf_Ok ({ cls := "SplitFares$Tokens", name := "scan", desc := "(LSplitFares$Tape;)V" } : Jvm.MethodName) prog_10_method_2_code 7 none 1 [sf_rv p0, sf_rv p1] (jx_Tokens_scan p0 p1) (fun _ => none) := by
  refine sf_Ok.of (env := [some (sf_rv p0), some (sf_rv p1), none, none, none, none, none]) (plainFor_of_name (by decide)) [false, false] (fun G => ⟨pk_r, pk_r, trivial⟩) (Nat.le_of_ble_eq_true rfl) rfl (fun X => ?_)
  unfold jx_Tokens_scan
  refine fp_aload_n (i := 1) (r := p1) dd_Tokens_scan_0 rfl rfl (fr_pc (pc' := 1) rfl ?_)
  refine fr_gI cl_8 1 (by decide) rfl sw_228 dd_Tokens_scan_1 (fun x1 => fr_pc (pc' := 4) rfl ?_)
  refine fp_sipush (v := (400 : Int32)) dd_Tokens_scan_4 (by decide) (fr_pc (pc' := 7) rfl ?_)
  refine fr_callS (stk := []) (ok_Math_min x1 (400 : Int32)) mt_Math_min rfl rfl sw_530 sw_432 (by decide) (Nat.le_of_ble_eq_true rfl) dd_Tokens_scan_7 (fun x2 => fr_to (pc' := 10) (env' := [some (sf_rv p0), some (sf_rv p1), none, none, none, none, none]) (stk' := [.int x2]) rfl rfl rfl ?_)
  refine fp_istore_n (i := 2) dd_Tokens_scan_10 rfl (Nat.le_of_ble_eq_true rfl) (fun _ => c1_r rfl) (fr_to (pc' := 11) (env' := [some (sf_rv p0), some (sf_rv p1), some (.int x2), none, none, none, none]) (stk' := []) rfl rfl rfl ?_)
  refine fp_aload_n (i := 0) (r := p0) dd_Tokens_scan_11 rfl rfl (fr_pc (pc' := 12) rfl ?_)
  refine fp_iconst (v := (0 : Int32)) dd_Tokens_scan_12 (by decide) (fr_pc (pc' := 13) rfl ?_)
  refine fr_pI cl_9 4 (by decide) rfl sw_275 rfl ⟨rfl, rfl⟩ dd_Tokens_scan_13 (fr_pc (pc' := 16) rfl ?_)
  refine fp_iconst (v := (4 : Int32)) dd_Tokens_scan_16 (by decide) (fr_pc (pc' := 17) rfl ?_)
  refine fp_istore_n (i := 3) dd_Tokens_scan_17 rfl (Nat.le_of_ble_eq_true rfl) (fun _ => c1_i rfl) (fr_to (pc' := 18) (env' := [some (sf_rv p0), some (sf_rv p1), some (.int x2), some (.int (4 : Int32)), none, none, none]) (stk' := []) rfl rfl rfl ?_)
  refine fp_iconst (v := (0 : Int32)) dd_Tokens_scan_18 (by decide) (fr_pc (pc' := 19) rfl ?_)
  refine fp_istore (i := 4) dd_Tokens_scan_19 (Nat.le_of_ble_eq_true rfl) (fun _ => c1_i rfl) (fr_to (pc' := 21) (env' := [some (sf_rv p0), some (sf_rv p1), some (.int x2), some (.int (4 : Int32)), some (.int (0 : Int32)), none, none]) (stk' := []) rfl rfl rfl ?_)
  refine fr_to (pc' := 21) (env' := [some (sf_rv p0), some (sf_rv p1), some (.int x2), some (.int (4 : Int32)), some (.int (0 : Int32)), none, none]) (stk' := []) rfl rfl rfl ?_
  refine fr_bnd (l1 := (fun (e33 : (Unit)) => sf_p 167 [some (sf_rv p0), some (sf_rv p1), some (.int x2), none, none, none, none] [])) (fr_loop (Lb := (fun (b3 : (Int32 × Int32)) => sf_p 21 [some (sf_rv p0), some (sf_rv p1), some (.int x2), some (.int b3.1), some (.int b3.2), none, none] [])) (fun b3 => ?_) _ _) (fun e33 => ?_)
  · refine fp_iload (i := 4) (x := b3.2) dd_Tokens_scan_21 rfl (fr_pc (pc' := 23) rfl ?_)
    refine fp_iload_n (i := 2) (x := x2) dd_Tokens_scan_23 rfl rfl (fr_pc (pc' := 24) rfl ?_)
    refine fr_icmp_ge (tgt := 167) dd_Tokens_scan_24 rfl (fun _ => ?_) (fun _ => ?_)
    · refine fr_wk [true, true, true, false, false, false, false] ?_
      exact fr_ret rfl
    · refine fr_pc (pc' := 27) rfl ?_
      refine fp_aload_n (i := 0) (r := p0) dd_Tokens_scan_27 rfl rfl (fr_pc (pc' := 28) rfl ?_)
      refine fr_gR cl_9 0 (by decide) rfl sw_271 dd_Tokens_scan_28 (fun x5 => fr_pc (pc' := 31) rfl ?_)
      refine fp_iload (i := 4) (x := b3.2) dd_Tokens_scan_31 rfl (fr_pc (pc' := 33) rfl ?_)
      refine fp_aload_n (i := 1) (r := p1) dd_Tokens_scan_33 rfl rfl (fr_pc (pc' := 34) rfl ?_)
      refine fp_iload (i := 4) (x := b3.2) dd_Tokens_scan_34 rfl (fr_pc (pc' := 36) rfl ?_)
      refine fr_callV (stk := [.int b3.2, sf_rv x5]) (As := [.int b3.2]) cl_8 (ok_Tape_at p1 b3.2) mt_Tape_at rfl rfl sw_531 sw_511 sw_512 (by decide) (Nat.le_of_ble_eq_true rfl) dd_Tokens_scan_36 (fun x6 => fr_to (pc' := 39) (env' := [some (sf_rv p0), some (sf_rv p1), some (.int x2), some (.int b3.1), some (.int b3.2), none, none]) (stk' := [.int x6, .int b3.2, sf_rv x5]) rfl rfl rfl ?_)
      refine fr_sI0 dd_Tokens_scan_39 (fr_pc (pc' := 40) rfl ?_)
      refine fp_aload_n (i := 0) (r := p0) dd_Tokens_scan_40 rfl rfl (fr_pc (pc' := 41) rfl ?_)
      refine fr_gR cl_9 0 (by decide) rfl sw_271 dd_Tokens_scan_41 (fun x7 => fr_pc (pc' := 44) rfl ?_)
      refine fp_iload (i := 4) (x := b3.2) dd_Tokens_scan_44 rfl (fr_pc (pc' := 46) rfl ?_)
      refine fr_aI0 dd_Tokens_scan_46 (fun x8 => fr_pc (pc' := 47) rfl ?_)
      refine fr_callS (stk := []) (ok_Tokens_kindOf x8) mt_Tokens_kindOf rfl rfl sw_532 sw_533 (by decide) (Nat.le_of_ble_eq_true rfl) dd_Tokens_scan_47 (fun x9 => fr_to (pc' := 50) (env' := [some (sf_rv p0), some (sf_rv p1), some (.int x2), some (.int b3.1), some (.int b3.2), none, none]) (stk' := [.int x9]) rfl rfl rfl ?_)
      refine fp_istore (i := 5) dd_Tokens_scan_50 (Nat.le_of_ble_eq_true rfl) (fun _ => c1_i rfl) (fr_to (pc' := 52) (env' := [some (sf_rv p0), some (sf_rv p1), some (.int x2), some (.int b3.1), some (.int b3.2), some (.int x9), none]) (stk' := []) rfl rfl rfl ?_)
      refine fp_iload (i := 5) (x := x9) dd_Tokens_scan_52 rfl (fr_pc (pc' := 54) rfl ?_)
      refine fp_iload_n (i := 3) (x := b3.1) dd_Tokens_scan_54 rfl rfl (fr_pc (pc' := 55) rfl ?_)
      refine fr_bnd (l1 := (fun (v14 : (Int32)) => sf_p 75 [some (sf_rv p0), some (sf_rv p1), some (.int x2), some (.int b3.1), some (.int b3.2), some (.int x9), none] [.int v14])) ?_ (fun v14 => ?_)
      · refine fr_or (l1 := (fun (v13 : (Unit)) => sf_p 74 [some (sf_rv p0), some (sf_rv p1), some (.int x2), some (.int b3.1), some (.int b3.2), some (.int x9), none] [])) ?_ (fun v13 => ?_)
        · refine fr_icmp_ne (tgt := 74) dd_Tokens_scan_55 rfl (fun _ => ?_) (fun _ => ?_)
          · refine fr_pc (pc' := 58) rfl ?_
            refine fp_iload (i := 5) (x := x9) dd_Tokens_scan_58 rfl (fr_pc (pc' := 60) rfl ?_)
            refine fp_iconst (v := (1 : Int32)) dd_Tokens_scan_60 (by decide) (fr_pc (pc' := 61) rfl ?_)
            refine fr_icmp_eq (tgt := 70) dd_Tokens_scan_61 rfl (fun _ => ?_) (fun _ => ?_)
            · refine fp_iconst (v := (1 : Int32)) dd_Tokens_scan_70 (by decide) (fr_pc (pc' := 71) rfl ?_)
              refine fp_goto (tgt := 75) dd_Tokens_scan_71 rfl ?_
              exact fr_ret rfl
            · refine fr_pc (pc' := 64) rfl ?_
              refine fp_iload (i := 5) (x := x9) dd_Tokens_scan_64 rfl (fr_pc (pc' := 66) rfl ?_)
              refine fp_iconst (v := (2 : Int32)) dd_Tokens_scan_66 (by decide) (fr_pc (pc' := 67) rfl ?_)
              refine fr_icmp_ne (tgt := 74) dd_Tokens_scan_67 rfl (fun _ => ?_) (fun _ => ?_)
              · refine fr_pc (pc' := 70) rfl ?_
                refine fp_iconst (v := (1 : Int32)) dd_Tokens_scan_70 (by decide) (fr_pc (pc' := 71) rfl ?_)
                refine fp_goto (tgt := 75) dd_Tokens_scan_71 rfl ?_
                exact fr_ret rfl
              · exact fr_ret rfl
          · exact fr_ret rfl
        · refine fp_iconst (v := (0 : Int32)) dd_Tokens_scan_74 (by decide) (fr_pc (pc' := 75) rfl ?_)
          exact fr_ret rfl
      · refine fp_istore (i := 6) dd_Tokens_scan_75 (Nat.le_of_ble_eq_true rfl) (fun _ => c1_i rfl) (fr_to (pc' := 77) (env' := [some (sf_rv p0), some (sf_rv p1), some (.int x2), some (.int b3.1), some (.int b3.2), some (.int x9), some (.int v14)]) (stk' := []) rfl rfl rfl ?_)
        refine fp_iload (i := 5) (x := x9) dd_Tokens_scan_77 rfl (fr_pc (pc' := 79) rfl ?_)
        refine fp_iconst (v := (4 : Int32)) dd_Tokens_scan_79 (by decide) (fr_pc (pc' := 80) rfl ?_)
        refine fr_bnd (l1 := (fun (v24 : (Unit)) => sf_p 130 [some (sf_rv p0), some (sf_rv p1), some (.int x2), some (.int b3.1), some (.int b3.2), some (.int x9), some (.int v14)] [])) ?_ (fun v24 => ?_)
        · refine fr_icmp_eq (tgt := 130) dd_Tokens_scan_80 rfl (fun _ => ?_) (fun _ => ?_)
          · exact fr_ret rfl
          · refine fr_pc (pc' := 83) rfl ?_
            refine fp_iload (i := 6) (x := v14) dd_Tokens_scan_83 rfl (fr_pc (pc' := 85) rfl ?_)
            refine fr_if_ne (tgt := 130) dd_Tokens_scan_85 rfl (fun _ => ?_) (fun _ => ?_)
            · refine fr_pc (pc' := 88) rfl ?_
              refine fp_aload_n (i := 0) (r := p0) dd_Tokens_scan_88 rfl rfl (fr_pc (pc' := 89) rfl ?_)
              refine fr_gI cl_9 4 (by decide) rfl sw_275 dd_Tokens_scan_89 (fun x17 => fr_pc (pc' := 92) rfl ?_)
              refine fp_sipush (v := (400 : Int32)) dd_Tokens_scan_92 (by decide) (fr_pc (pc' := 95) rfl ?_)
              refine fr_icmp_ge (tgt := 130) dd_Tokens_scan_95 rfl (fun _ => ?_) (fun _ => ?_)
              · exact fr_ret rfl
              · refine fr_pc (pc' := 98) rfl ?_
                refine fp_aload_n (i := 0) (r := p0) dd_Tokens_scan_98 rfl rfl (fr_pc (pc' := 99) rfl ?_)
                refine fr_gR cl_9 1 (by decide) rfl sw_272 dd_Tokens_scan_99 (fun x19 => fr_pc (pc' := 102) rfl ?_)
                refine fp_aload_n (i := 0) (r := p0) dd_Tokens_scan_102 rfl rfl (fr_pc (pc' := 103) rfl ?_)
                refine fr_gI cl_9 4 (by decide) rfl sw_275 dd_Tokens_scan_103 (fun x20 => fr_pc (pc' := 106) rfl ?_)
                refine fp_iload (i := 5) (x := x9) dd_Tokens_scan_106 rfl (fr_pc (pc' := 108) rfl ?_)
                refine fr_sI0 dd_Tokens_scan_108 (fr_pc (pc' := 109) rfl ?_)
                refine fp_aload_n (i := 0) (r := p0) dd_Tokens_scan_109 rfl rfl (fr_pc (pc' := 110) rfl ?_)
                refine fr_gR cl_9 2 (by decide) rfl sw_273 dd_Tokens_scan_110 (fun x21 => fr_pc (pc' := 113) rfl ?_)
                refine fp_aload_n (i := 0) (r := p0) dd_Tokens_scan_113 rfl rfl (fr_pc (pc' := 114) rfl ?_)
                refine fr_gI cl_9 4 (by decide) rfl sw_275 dd_Tokens_scan_114 (fun x22 => fr_pc (pc' := 117) rfl ?_)
                refine fp_iload (i := 4) (x := b3.2) dd_Tokens_scan_117 rfl (fr_pc (pc' := 119) rfl ?_)
                refine fr_sI0 dd_Tokens_scan_119 (fr_pc (pc' := 120) rfl ?_)
                refine fp_aload_n (i := 0) (r := p0) dd_Tokens_scan_120 rfl rfl (fr_pc (pc' := 121) rfl ?_)
                refine fp_dup_r dd_Tokens_scan_121 (fr_pc (pc' := 122) rfl ?_)
                refine fr_gI cl_9 4 (by decide) rfl sw_275 dd_Tokens_scan_122 (fun x23 => fr_pc (pc' := 125) rfl ?_)
                refine fp_iconst (v := (1 : Int32)) dd_Tokens_scan_125 (by decide) (fr_pc (pc' := 126) rfl ?_)
                refine fp_iadd dd_Tokens_scan_126 (fr_pc (pc' := 127) rfl ?_)
                refine fr_pI cl_9 4 (by decide) rfl sw_275 rfl ⟨rfl, rfl⟩ dd_Tokens_scan_127 (fr_pc (pc' := 130) rfl ?_)
                exact fr_ret rfl
            · exact fr_ret rfl
        · refine fp_iload (i := 5) (x := x9) dd_Tokens_scan_130 rfl (fr_pc (pc' := 132) rfl ?_)
          refine fp_iconst (v := (4 : Int32)) dd_Tokens_scan_132 (by decide) (fr_pc (pc' := 133) rfl ?_)
          refine fr_icmp_eq (tgt := 158) dd_Tokens_scan_133 rfl (fun _ => ?_) (fun _ => ?_)
          · refine fp_iload (i := 5) (x := x9) dd_Tokens_scan_158 rfl (fr_pc (pc' := 160) rfl ?_)
            refine fp_istore_n (i := 3) dd_Tokens_scan_160 rfl (Nat.le_of_ble_eq_true rfl) (fun _ => c1_i rfl) (fr_to (pc' := 161) (env' := [some (sf_rv p0), some (sf_rv p1), some (.int x2), some (.int x9), some (.int b3.2), some (.int x9), some (.int v14)]) (stk' := []) rfl rfl rfl ?_)
            refine fr_niinc (i := 4) (x := b3.2) (w := (1 : Int32)) dd_Tokens_scan_161 rfl (by decide) (Nat.le_of_ble_eq_true rfl) (fun _ => c1_i rfl) (fun y26 => fr_to (pc' := 164) (env' := [some (sf_rv p0), some (sf_rv p1), some (.int x2), some (.int x9), some (.int y26), some (.int x9), some (.int v14)]) (stk' := []) rfl rfl rfl ?_)
            refine fp_goto (tgt := 21) dd_Tokens_scan_164 rfl ?_
            refine fr_wk [true, true, true, true, true, false, false] ?_
            exact fr_ret rfl
          · refine fr_pc (pc' := 136) rfl ?_
            refine fp_aload_n (i := 0) (r := p0) dd_Tokens_scan_136 rfl rfl (fr_pc (pc' := 137) rfl ?_)
            refine fr_gI cl_9 4 (by decide) rfl sw_275 dd_Tokens_scan_137 (fun x27 => fr_pc (pc' := 140) rfl ?_)
            refine fr_if_le (tgt := 158) dd_Tokens_scan_140 rfl (fun _ => ?_) (fun _ => ?_)
            · refine fp_iload (i := 5) (x := x9) dd_Tokens_scan_158 rfl (fr_pc (pc' := 160) rfl ?_)
              refine fp_istore_n (i := 3) dd_Tokens_scan_160 rfl (Nat.le_of_ble_eq_true rfl) (fun _ => c1_i rfl) (fr_to (pc' := 161) (env' := [some (sf_rv p0), some (sf_rv p1), some (.int x2), some (.int x9), some (.int b3.2), some (.int x9), some (.int v14)]) (stk' := []) rfl rfl rfl ?_)
              refine fr_niinc (i := 4) (x := b3.2) (w := (1 : Int32)) dd_Tokens_scan_161 rfl (by decide) (Nat.le_of_ble_eq_true rfl) (fun _ => c1_i rfl) (fun y29 => fr_to (pc' := 164) (env' := [some (sf_rv p0), some (sf_rv p1), some (.int x2), some (.int x9), some (.int y29), some (.int x9), some (.int v14)]) (stk' := []) rfl rfl rfl ?_)
              refine fp_goto (tgt := 21) dd_Tokens_scan_164 rfl ?_
              refine fr_wk [true, true, true, true, true, false, false] ?_
              exact fr_ret rfl
            · refine fr_pc (pc' := 143) rfl ?_
              refine fp_aload_n (i := 0) (r := p0) dd_Tokens_scan_143 rfl rfl (fr_pc (pc' := 144) rfl ?_)
              refine fr_gR cl_9 3 (by decide) rfl sw_274 dd_Tokens_scan_144 (fun x30 => fr_pc (pc' := 147) rfl ?_)
              refine fp_aload_n (i := 0) (r := p0) dd_Tokens_scan_147 rfl rfl (fr_pc (pc' := 148) rfl ?_)
              refine fr_gI cl_9 4 (by decide) rfl sw_275 dd_Tokens_scan_148 (fun x31 => fr_pc (pc' := 151) rfl ?_)
              refine fp_iconst (v := (1 : Int32)) dd_Tokens_scan_151 (by decide) (fr_pc (pc' := 152) rfl ?_)
              refine fp_isub dd_Tokens_scan_152 (fr_pc (pc' := 153) rfl ?_)
              refine fp_iload (i := 4) (x := b3.2) dd_Tokens_scan_153 rfl (fr_pc (pc' := 155) rfl ?_)
              refine fp_iconst (v := (1 : Int32)) dd_Tokens_scan_155 (by decide) (fr_pc (pc' := 156) rfl ?_)
              refine fp_iadd dd_Tokens_scan_156 (fr_pc (pc' := 157) rfl ?_)
              refine fr_sI0 dd_Tokens_scan_157 (fr_pc (pc' := 158) rfl ?_)
              refine fp_iload (i := 5) (x := x9) dd_Tokens_scan_158 rfl (fr_pc (pc' := 160) rfl ?_)
              refine fp_istore_n (i := 3) dd_Tokens_scan_160 rfl (Nat.le_of_ble_eq_true rfl) (fun _ => c1_i rfl) (fr_to (pc' := 161) (env' := [some (sf_rv p0), some (sf_rv p1), some (.int x2), some (.int x9), some (.int b3.2), some (.int x9), some (.int v14)]) (stk' := []) rfl rfl rfl ?_)
              refine fr_niinc (i := 4) (x := b3.2) (w := (1 : Int32)) dd_Tokens_scan_161 rfl (by decide) (Nat.le_of_ble_eq_true rfl) (fun _ => c1_i rfl) (fun y32 => fr_to (pc' := 164) (env' := [some (sf_rv p0), some (sf_rv p1), some (.int x2), some (.int x9), some (.int y32), some (.int x9), some (.int v14)]) (stk' := []) rfl rfl rfl ?_)
              refine fp_goto (tgt := 21) dd_Tokens_scan_164 rfl ?_
              refine fr_wk [true, true, true, true, true, false, false] ?_
              exact fr_ret rfl
  · refine fp_aload_n (i := 0) (r := p0) dd_Tokens_scan_167 rfl rfl (fr_pc (pc' := 168) rfl ?_)
    refine fr_gR cl_9 1 (by decide) rfl sw_272 dd_Tokens_scan_168 (fun x34 => fr_pc (pc' := 171) rfl ?_)
    refine fp_aload_n (i := 0) (r := p0) dd_Tokens_scan_171 rfl rfl (fr_pc (pc' := 172) rfl ?_)
    refine fr_gI cl_9 4 (by decide) rfl sw_275 dd_Tokens_scan_172 (fun x35 => fr_pc (pc' := 175) rfl ?_)
    refine fp_iconst (v := (0 : Int32)) dd_Tokens_scan_175 (by decide) (fr_pc (pc' := 176) rfl ?_)
    refine fr_sI0 dd_Tokens_scan_176 (fr_pc (pc' := 177) rfl ?_)
    refine fp_aload_n (i := 0) (r := p0) dd_Tokens_scan_177 rfl rfl (fr_pc (pc' := 178) rfl ?_)
    refine fr_gR cl_9 2 (by decide) rfl sw_273 dd_Tokens_scan_178 (fun x36 => fr_pc (pc' := 181) rfl ?_)
    refine fp_aload_n (i := 0) (r := p0) dd_Tokens_scan_181 rfl rfl (fr_pc (pc' := 182) rfl ?_)
    refine fr_gI cl_9 4 (by decide) rfl sw_275 dd_Tokens_scan_182 (fun x37 => fr_pc (pc' := 185) rfl ?_)
    refine fp_iload_n (i := 2) (x := x2) dd_Tokens_scan_185 rfl rfl (fr_pc (pc' := 186) rfl ?_)
    refine fr_sI0 dd_Tokens_scan_186 (fr_pc (pc' := 187) rfl ?_)
    refine fp_aload_n (i := 0) (r := p0) dd_Tokens_scan_187 rfl rfl (fr_pc (pc' := 188) rfl ?_)
    refine fr_gR cl_9 3 (by decide) rfl sw_274 dd_Tokens_scan_188 (fun x38 => fr_pc (pc' := 191) rfl ?_)
    refine fp_aload_n (i := 0) (r := p0) dd_Tokens_scan_191 rfl rfl (fr_pc (pc' := 192) rfl ?_)
    refine fr_gI cl_9 4 (by decide) rfl sw_275 dd_Tokens_scan_192 (fun x39 => fr_pc (pc' := 195) rfl ?_)
    refine fp_iload_n (i := 2) (x := x2) dd_Tokens_scan_195 rfl rfl (fr_pc (pc' := 196) rfl ?_)
    refine fr_sI0 dd_Tokens_scan_196 (fr_pc (pc' := 197) rfl ?_)
    refine fp_aload_n (i := 0) (r := p0) dd_Tokens_scan_197 rfl rfl (fr_pc (pc' := 198) rfl ?_)
    refine fp_iconst (v := (0 : Int32)) dd_Tokens_scan_198 (by decide) (fr_pc (pc' := 199) rfl ?_)
    refine fr_callV (stk := []) (As := [.int (0 : Int32)]) cl_9 (ok_Tokens_look p0 (0 : Int32)) mt_Tokens_look rfl rfl sw_535 sw_537 sp_5 (by decide) (Nat.le_of_ble_eq_true rfl) dd_Tokens_scan_199 (fun u40 => fr_to (pc' := 202) (env' := [some (sf_rv p0), some (sf_rv p1), some (.int x2), none, none, none, none]) (stk' := []) rfl rfl rfl ?_)
    exact fr_vret rfl rfl dd_Tokens_scan_202
theorem mt_Tokens_byteAt : sf_Mt ({ cls := "SplitFares$Tokens", name := "byteAt", desc := "(I)I" } : Jvm.MethodName) prog_10_method_7_code 2 (some .int) 1 := ⟨sw_569, sw_11, ⟨by decide, by decide, by decide +kernel⟩, by decide⟩
theorem dd_Tokens_byteAt_0 : decode prog_10_method_7_code 0 = .ok (.iload_n 1, 1) := by decide +kernel
theorem dd_Tokens_byteAt_1 : decode prog_10_method_7_code 1 = .ok (.ifCond .lt 19, 3) := by decide +kernel
theorem dd_Tokens_byteAt_4 : decode prog_10_method_7_code 4 = .ok (.iload_n 1, 1) := by decide +kernel
theorem dd_Tokens_byteAt_5 : decode prog_10_method_7_code 5 = .ok (.sipush 400, 3) := by decide +kernel
theorem dd_Tokens_byteAt_8 : decode prog_10_method_7_code 8 = .ok (.if_icmp .ge 12, 3) := by decide +kernel
theorem dd_Tokens_byteAt_11 : decode prog_10_method_7_code 11 = .ok (.aload_n 0, 1) := by decide +kernel
theorem dd_Tokens_byteAt_12 : decode prog_10_method_7_code 12 = .ok (.getfield 9, 3) := by decide +kernel
theorem dd_Tokens_byteAt_15 : decode prog_10_method_7_code 15 = .ok (.iload_n 1, 1) := by decide +kernel
theorem dd_Tokens_byteAt_16 : decode prog_10_method_7_code 16 = .ok (.iaload, 1) := by decide +kernel
theorem dd_Tokens_byteAt_17 : decode prog_10_method_7_code 17 = .ok (.goto 4, 3) := by decide +kernel
theorem dd_Tokens_byteAt_20 : decode prog_10_method_7_code 20 = .ok (.iconst 0, 1) := by decide +kernel
theorem dd_Tokens_byteAt_21 : decode prog_10_method_7_code 21 = .ok (.ireturn, 1) := by decide +kernel
def jx_Tokens_byteAt (p0 : Option Nat) (p1 : Int32) : sf_M (Int32) :=
  if p1 < 0 then (
  sf_ret (0 : Int32)
  ) else (
  if (400 : Int32) ≤ p1 then (
  sf_ret (0 : Int32)
  ) else (
  sf_bnd (sf_gR 9 0 p0) fun x3 =>
  sf_bnd (sf_aI 0 x3 p1) fun x4 =>
  sf_ret x4
  )
  )
set_option maxRecDepth 20000 in
set_option maxHeartbeats 4000000 in
theorem ok_Tokens_byteAt (p0 : Option Nat) (p1 : Int32) : sf_Ok ({ cls := "SplitFares$Tokens", name := "byteAt", desc := "(I)I" } : Jvm.MethodName) prog_10_method_7_code 2 (some .int) 0 [sf_rv p0, .int p1] (jx_Tokens_byteAt p0 p1) (fun r => some (.int r)) := by
  refine sf_Ok.of (env := [some (sf_rv p0), some (.int p1)]) (plainFor_of_name (by decide)) [false, false] (fun G => ⟨pk_r, pk_i, trivial⟩) (Nat.le_of_ble_eq_true rfl) rfl (fun X => ?_)
  unfold jx_Tokens_byteAt
  refine fp_iload_n (i := 1) (x := p1) dd_Tokens_byteAt_0 rfl rfl (fr_pc (pc' := 1) rfl ?_)
  refine fr_if_lt (tgt := 20) dd_Tokens_byteAt_1 rfl (fun _ => ?_) (fun _ => ?_)
  · refine fp_iconst (v := (0 : Int32)) dd_Tokens_byteAt_20 (by decide) (fr_pc (pc' := 21) rfl ?_)
    exact fr_iret (v := (0 : Int32)) rfl rfl dd_Tokens_byteAt_21
  · refine fr_pc (pc' := 4) rfl ?_
    refine fp_iload_n (i := 1) (x := p1) dd_Tokens_byteAt_4 rfl rfl (fr_pc (pc' := 5) rfl ?_)
    refine fp_sipush (v := (400 : Int32)) dd_Tokens_byteAt_5 (by decide) (fr_pc (pc' := 8) rfl ?_)
    refine fr_icmp_ge (tgt := 20) dd_Tokens_byteAt_8 rfl (fun _ => ?_) (fun _ => ?_)
    · refine fp_iconst (v := (0 : Int32)) dd_Tokens_byteAt_20 (by decide) (fr_pc (pc' := 21) rfl ?_)
      exact fr_iret (v := (0 : Int32)) rfl rfl dd_Tokens_byteAt_21
    · refine fr_pc (pc' := 11) rfl ?_
      refine fp_aload_n (i := 0) (r := p0) dd_Tokens_byteAt_11 rfl rfl (fr_pc (pc' := 12) rfl ?_)
      refine fr_gR cl_9 0 (by decide) rfl sw_271 dd_Tokens_byteAt_12 (fun x3 => fr_pc (pc' := 15) rfl ?_)
      refine fp_iload_n (i := 1) (x := p1) dd_Tokens_byteAt_15 rfl rfl (fr_pc (pc' := 16) rfl ?_)
      refine fr_aI0 dd_Tokens_byteAt_16 (fun x4 => fr_pc (pc' := 17) rfl ?_)
      refine fp_goto (tgt := 21) dd_Tokens_byteAt_17 rfl ?_
      exact fr_iret (v := x4) rfl rfl dd_Tokens_byteAt_21
theorem mt_Tokens_isWord : sf_Mt ({ cls := "SplitFares$Tokens", name := "isWord", desc := "(Ljava/lang/String;)Z" } : Jvm.MethodName) prog_10_method_10_code 3 (some .boolean) 1 := ⟨sw_555, sw_11, ⟨by decide, by decide, by decide +kernel⟩, by decide⟩
theorem dd_Tokens_isWord_0 : decode prog_10_method_10_code 0 = .ok (.aload_n 0, 1) := by decide +kernel
theorem dd_Tokens_isWord_1 : decode prog_10_method_10_code 1 = .ok (.getfield 31, 3) := by decide +kernel
theorem dd_Tokens_isWord_4 : decode prog_10_method_10_code 4 = .ok (.iconst 1, 1) := by decide +kernel
theorem dd_Tokens_isWord_5 : decode prog_10_method_10_code 5 = .ok (.if_icmp .ne 19, 3) := by decide +kernel
theorem dd_Tokens_isWord_8 : decode prog_10_method_10_code 8 = .ok (.aload_n 0, 1) := by decide +kernel
theorem dd_Tokens_isWord_9 : decode prog_10_method_10_code 9 = .ok (.getfield 37, 3) := by decide +kernel
theorem dd_Tokens_isWord_12 : decode prog_10_method_10_code 12 = .ok (.aload_n 0, 1) := by decide +kernel
theorem dd_Tokens_isWord_13 : decode prog_10_method_10_code 13 = .ok (.getfield 34, 3) := by decide +kernel
theorem dd_Tokens_isWord_16 : decode prog_10_method_10_code 16 = .ok (.isub, 1) := by decide +kernel
theorem dd_Tokens_isWord_17 : decode prog_10_method_10_code 17 = .ok (.aload_n 1, 1) := by decide +kernel
theorem dd_Tokens_isWord_18 : decode prog_10_method_10_code 18 = .ok (.invokevirtual 65, 3) := by decide +kernel
theorem dd_Tokens_isWord_21 : decode prog_10_method_10_code 21 = .ok (.if_icmp .eq 5, 3) := by decide +kernel
theorem dd_Tokens_isWord_26 : decode prog_10_method_10_code 26 = .ok (.iconst 0, 1) := by decide +kernel
theorem dd_Tokens_isWord_27 : decode prog_10_method_10_code 27 = .ok (.istore_n 2, 1) := by decide +kernel
theorem dd_Tokens_isWord_28 : decode prog_10_method_10_code 28 = .ok (.iload_n 2, 1) := by decide +kernel
theorem dd_Tokens_isWord_29 : decode prog_10_method_10_code 29 = .ok (.aload_n 1, 1) := by decide +kernel
theorem dd_Tokens_isWord_30 : decode prog_10_method_10_code 30 = .ok (.invokevirtual 65, 3) := by decide +kernel
theorem dd_Tokens_isWord_33 : decode prog_10_method_10_code 33 = .ok (.if_icmp .ge 29, 3) := by decide +kernel
theorem dd_Tokens_isWord_36 : decode prog_10_method_10_code 36 = .ok (.aload_n 0, 1) := by decide +kernel
theorem dd_Tokens_isWord_37 : decode prog_10_method_10_code 37 = .ok (.aload_n 0, 1) := by decide +kernel
theorem dd_Tokens_isWord_38 : decode prog_10_method_10_code 38 = .ok (.getfield 34, 3) := by decide +kernel
theorem dd_Tokens_isWord_41 : decode prog_10_method_10_code 41 = .ok (.iload_n 2, 1) := by decide +kernel
theorem dd_Tokens_isWord_42 : decode prog_10_method_10_code 42 = .ok (.iadd, 1) := by decide +kernel
theorem dd_Tokens_isWord_43 : decode prog_10_method_10_code 43 = .ok (.invokevirtual 62, 3) := by decide +kernel
theorem dd_Tokens_isWord_46 : decode prog_10_method_10_code 46 = .ok (.aload_n 1, 1) := by decide +kernel
theorem dd_Tokens_isWord_47 : decode prog_10_method_10_code 47 = .ok (.iload_n 2, 1) := by decide +kernel
theorem dd_Tokens_isWord_48 : decode prog_10_method_10_code 48 = .ok (.invokevirtual 70, 3) := by decide +kernel
theorem dd_Tokens_isWord_51 : decode prog_10_method_10_code 51 = .ok (.if_icmp .eq 5, 3) := by decide +kernel
theorem dd_Tokens_isWord_54 : decode prog_10_method_10_code 54 = .ok (.iconst 0, 1) := by decide +kernel
theorem dd_Tokens_isWord_55 : decode prog_10_method_10_code 55 = .ok (.ireturn, 1) := by decide +kernel
theorem dd_Tokens_isWord_56 : decode prog_10_method_10_code 56 = .ok (.iinc 2 1, 3) := by decide +kernel
theorem dd_Tokens_isWord_59 : decode prog_10_method_10_code 59 = .ok (.goto (-31), 3) := by decide +kernel
theorem dd_Tokens_isWord_62 : decode prog_10_method_10_code 62 = .ok (.iconst 1, 1) := by decide +kernel
theorem dd_Tokens_isWord_63 : decode prog_10_method_10_code 63 = .ok (.ireturn, 1) := by decide +kernel
theorem dd_Tokens_isWord_24 : decode prog_10_method_10_code 24 = .ok (.iconst 0, 1) := by decide +kernel
theorem dd_Tokens_isWord_25 : decode prog_10_method_10_code 25 = .ok (.ireturn, 1) := by decide +kernel
def jx_Tokens_isWord (p0 : Option Nat) (p1 : UInt32) : sf_M (Int32) :=
  sf_bnd (sf_gI 9 6 p0) fun x1 =>
  if x1 = (1 : Int32) then (
  sf_bnd (sf_gI 9 8 p0) fun x3 =>
  sf_bnd (sf_gI 9 7 p0) fun x4 =>
  sf_bnd (sf_rs p1 (jx_String_length p1)) fun x5 =>
  if (x3 - x4) = x5 then (
  sf_or (α := Int32) (β := (Unit)) (sf_loop (β := (Int32)) (γ := (Int32 ⊕ (Unit))) (fun b7 =>
  sf_bnd (sf_rs p1 (jx_String_length p1)) fun x8 =>
  if x8 ≤ b7 then (
  sf_ret (.inr (.inr ()))
  ) else (
  sf_bnd (sf_gI 9 7 p0) fun x10 =>
  sf_bnd (sf_rc 9 p0 (jx_Tokens_byteAt p0 (x10 + b7))) fun x11 =>
  sf_bnd (sf_rs p1 (jx_String_charAt p1 b7)) fun x12 =>
  if x11 = x12 then (
  sf_bnd (sf_ret (b7 + (1 : Int32))) fun y14 =>
  sf_ret (.inl y14)
  ) else (
  sf_ret (.inr (.inl (0 : Int32)))
  )
  )
  ) sf_fuel (0 : Int32)) (fun e15 =>
  sf_ret (1 : Int32)
  )
  ) else (
  sf_ret (0 : Int32)
  )
  ) else (
  sf_ret (0 : Int32)
  )
set_option maxRecDepth 20000 in
set_option maxHeartbeats 4000000 in
theorem ok_Tokens_isWord (p0 : Option Nat) (p1 : UInt32) : sf_Ok ({ cls := "SplitFares$Tokens", name := "isWord", desc := "(Ljava/lang/String;)Z" } : Jvm.MethodName) prog_10_method_10_code 3 (some .boolean) 6 [sf_rv p0, .float p1] (jx_Tokens_isWord p0 p1) (fun r => some (.int r)) := by
  refine sf_Ok.of (env := [some (sf_rv p0), some (.float p1), none]) (plainFor_of_name (by decide)) [false, false] (fun G => ⟨pk_r, pk_s, trivial⟩) (Nat.le_of_ble_eq_true rfl) rfl (fun X => ?_)
  unfold jx_Tokens_isWord
  refine fp_aload_n (i := 0) (r := p0) dd_Tokens_isWord_0 rfl rfl (fr_pc (pc' := 1) rfl ?_)
  refine fr_gI cl_9 6 (by decide) rfl sw_277 dd_Tokens_isWord_1 (fun x1 => fr_pc (pc' := 4) rfl ?_)
  refine fp_iconst (v := (1 : Int32)) dd_Tokens_isWord_4 (by decide) (fr_pc (pc' := 5) rfl ?_)
  refine fr_icmp_ne (tgt := 24) dd_Tokens_isWord_5 rfl (fun _ => ?_) (fun _ => ?_)
  · refine fr_pc (pc' := 8) rfl ?_
    refine fp_aload_n (i := 0) (r := p0) dd_Tokens_isWord_8 rfl rfl (fr_pc (pc' := 9) rfl ?_)
    refine fr_gI cl_9 8 (by decide) rfl sw_279 dd_Tokens_isWord_9 (fun x3 => fr_pc (pc' := 12) rfl ?_)
    refine fp_aload_n (i := 0) (r := p0) dd_Tokens_isWord_12 rfl rfl (fr_pc (pc' := 13) rfl ?_)
    refine fr_gI cl_9 7 (by decide) rfl sw_278 dd_Tokens_isWord_13 (fun x4 => fr_pc (pc' := 16) rfl ?_)
    refine fp_isub dd_Tokens_isWord_16 (fr_pc (pc' := 17) rfl ?_)
    refine fp_aload_ns (i := 1) (x := p1) dd_Tokens_isWord_17 rfl rfl (fr_pc (pc' := 18) rfl ?_)
    refine fr_callStr (stk := [.int (x3 - x4)]) (As := []) rfl (ok_String_length p1) mt_String_length rfl rfl sw_556 sw_557 sw_558 (by decide) (Nat.le_of_ble_eq_true rfl) dd_Tokens_isWord_18 (fun x5 => fr_to (pc' := 21) (env' := [some (sf_rv p0), some (.float p1), none]) (stk' := [.int x5, .int (x3 - x4)]) rfl rfl rfl ?_)
    refine fr_icmp_eq (tgt := 26) dd_Tokens_isWord_21 rfl (fun _ => ?_) (fun _ => ?_)
    · refine fp_iconst (v := (0 : Int32)) dd_Tokens_isWord_26 (by decide) (fr_pc (pc' := 27) rfl ?_)
      refine fp_istore_n (i := 2) dd_Tokens_isWord_27 rfl (Nat.le_of_ble_eq_true rfl) (fun _ => c1_s rfl) (fr_to (pc' := 28) (env' := [some (sf_rv p0), some (.float p1), some (.int (0 : Int32))]) (stk' := []) rfl rfl rfl ?_)
      refine fr_to (pc' := 28) (env' := [some (sf_rv p0), some (.float p1), some (.int (0 : Int32))]) (stk' := []) rfl rfl rfl ?_
      refine fr_or (l1 := (fun (e15 : (Unit)) => sf_p 62 [some (sf_rv p0), some (.float p1), none] [])) (fr_loop (Lb := (fun (b7 : (Int32)) => sf_p 28 [some (sf_rv p0), some (.float p1), some (.int b7)] [])) (fun b7 => ?_) _ _) (fun e15 => ?_)
      · refine fp_iload_n (i := 2) (x := b7) dd_Tokens_isWord_28 rfl rfl (fr_pc (pc' := 29) rfl ?_)
        refine fp_aload_ns (i := 1) (x := p1) dd_Tokens_isWord_29 rfl rfl (fr_pc (pc' := 30) rfl ?_)
        refine fr_callStr (stk := [.int b7]) (As := []) rfl (ok_String_length p1) mt_String_length rfl rfl sw_556 sw_557 sw_558 (by decide) (Nat.le_of_ble_eq_true rfl) dd_Tokens_isWord_30 (fun x8 => fr_to (pc' := 33) (env' := [some (sf_rv p0), some (.float p1), some (.int b7)]) (stk' := [.int x8, .int b7]) rfl rfl rfl ?_)
        refine fr_icmp_ge (tgt := 62) dd_Tokens_isWord_33 rfl (fun _ => ?_) (fun _ => ?_)
        · refine fr_wk [true, true, false] ?_
          exact fr_ret rfl
        · refine fr_pc (pc' := 36) rfl ?_
          refine fp_aload_n (i := 0) (r := p0) dd_Tokens_isWord_36 rfl rfl (fr_pc (pc' := 37) rfl ?_)
          refine fp_aload_n (i := 0) (r := p0) dd_Tokens_isWord_37 rfl rfl (fr_pc (pc' := 38) rfl ?_)
          refine fr_gI cl_9 7 (by decide) rfl sw_278 dd_Tokens_isWord_38 (fun x10 => fr_pc (pc' := 41) rfl ?_)
          refine fp_iload_n (i := 2) (x := b7) dd_Tokens_isWord_41 rfl rfl (fr_pc (pc' := 42) rfl ?_)
          refine fp_iadd dd_Tokens_isWord_42 (fr_pc (pc' := 43) rfl ?_)
          refine fr_callV (stk := []) (As := [.int (x10 + b7)]) cl_9 (ok_Tokens_byteAt p0 (x10 + b7)) mt_Tokens_byteAt rfl rfl sw_566 sw_568 sp_8 (by decide) (Nat.le_of_ble_eq_true rfl) dd_Tokens_isWord_43 (fun x11 => fr_to (pc' := 46) (env' := [some (sf_rv p0), some (.float p1), some (.int b7)]) (stk' := [.int x11]) rfl rfl rfl ?_)
          refine fp_aload_ns (i := 1) (x := p1) dd_Tokens_isWord_46 rfl rfl (fr_pc (pc' := 47) rfl ?_)
          refine fp_iload_n (i := 2) (x := b7) dd_Tokens_isWord_47 rfl rfl (fr_pc (pc' := 48) rfl ?_)
          refine fr_callStr (stk := [.int x11]) (As := [.int b7]) rfl (ok_String_charAt p1 b7) mt_String_charAt rfl rfl sw_570 sw_571 sw_572 (by decide) (Nat.le_of_ble_eq_true rfl) dd_Tokens_isWord_48 (fun x12 => fr_to (pc' := 51) (env' := [some (sf_rv p0), some (.float p1), some (.int b7)]) (stk' := [.int x12, .int x11]) rfl rfl rfl ?_)
          refine fr_icmp_eq (tgt := 56) dd_Tokens_isWord_51 rfl (fun _ => ?_) (fun _ => ?_)
          · refine fr_niinc (i := 2) (x := b7) (w := (1 : Int32)) dd_Tokens_isWord_56 rfl (by decide) (Nat.le_of_ble_eq_true rfl) (fun _ => c1_s rfl) (fun y14 => fr_to (pc' := 59) (env' := [some (sf_rv p0), some (.float p1), some (.int y14)]) (stk' := []) rfl rfl rfl ?_)
            refine fp_goto (tgt := 28) dd_Tokens_isWord_59 rfl ?_
            exact fr_ret rfl
          · refine fr_pc (pc' := 54) rfl ?_
            refine fp_iconst (v := (0 : Int32)) dd_Tokens_isWord_54 (by decide) (fr_pc (pc' := 55) rfl ?_)
            exact fr_zret0 (v := (0 : Int32)) (Or.inl rfl) rfl rfl dd_Tokens_isWord_55
      · refine fp_iconst (v := (1 : Int32)) dd_Tokens_isWord_62 (by decide) (fr_pc (pc' := 63) rfl ?_)
        exact fr_zret0 (v := (1 : Int32)) (Or.inr rfl) rfl rfl dd_Tokens_isWord_63
    · refine fr_pc (pc' := 24) rfl ?_
      refine fp_iconst (v := (0 : Int32)) dd_Tokens_isWord_24 (by decide) (fr_pc (pc' := 25) rfl ?_)
      exact fr_zret0 (v := (0 : Int32)) (Or.inl rfl) rfl rfl dd_Tokens_isWord_25
  · refine fp_iconst (v := (0 : Int32)) dd_Tokens_isWord_24 (by decide) (fr_pc (pc' := 25) rfl ?_)
    exact fr_zret0 (v := (0 : Int32)) (Or.inl rfl) rfl rfl dd_Tokens_isWord_25
theorem mt_Tokens_step : sf_Mt ({ cls := "SplitFares$Tokens", name := "step", desc := "()V" } : Jvm.MethodName) prog_10_method_5_code 1 none 0 := ⟨sw_615, sw_11, ⟨by decide, by decide, by decide +kernel⟩, by decide⟩
theorem dd_Tokens_step_0 : decode prog_10_method_5_code 0 = .ok (.aload_n 0, 1) := by decide +kernel
theorem dd_Tokens_step_1 : decode prog_10_method_5_code 1 = .ok (.aload_n 0, 1) := by decide +kernel
theorem dd_Tokens_step_2 : decode prog_10_method_5_code 2 = .ok (.getfield 28, 3) := by decide +kernel
theorem dd_Tokens_step_5 : decode prog_10_method_5_code 5 = .ok (.iconst 1, 1) := by decide +kernel
theorem dd_Tokens_step_6 : decode prog_10_method_5_code 6 = .ok (.iadd, 1) := by decide +kernel
theorem dd_Tokens_step_7 : decode prog_10_method_5_code 7 = .ok (.invokevirtual 58, 3) := by decide +kernel
theorem dd_Tokens_step_10 : decode prog_10_method_5_code 10 = .ok (.return_, 1) := by decide +kernel
def jx_Tokens_step (p0 : Option Nat) : sf_M (Unit) :=
  sf_bnd (sf_gI 9 5 p0) fun x1 =>
  sf_bnd (sf_rc 9 p0 (jx_Tokens_look p0 (x1 + (1 : Int32)))) fun _ =>
  sf_ret ()
set_option maxRecDepth 20000 in
set_option maxHeartbeats 4000000 in
theorem ok_Tokens_step (p0 : Option Nat) : sf_Ok ({ cls := "SplitFares$Tokens", name := "step", desc := "()V" } : Jvm.MethodName) prog_10_method_5_code 1 none 1 [sf_rv p0] (jx_Tokens_step p0) (fun _ => none) := by
  refine sf_Ok.of (env := [some (sf_rv p0)]) (plainFor_of_name (by decide)) [false] (fun G => ⟨pk_r, trivial⟩) (Nat.le_of_ble_eq_true rfl) rfl (fun X => ?_)
  unfold jx_Tokens_step
  refine fp_aload_n (i := 0) (r := p0) dd_Tokens_step_0 rfl rfl (fr_pc (pc' := 1) rfl ?_)
  refine fp_aload_n (i := 0) (r := p0) dd_Tokens_step_1 rfl rfl (fr_pc (pc' := 2) rfl ?_)
  refine fr_gI cl_9 5 (by decide) rfl sw_276 dd_Tokens_step_2 (fun x1 => fr_pc (pc' := 5) rfl ?_)
  refine fp_iconst (v := (1 : Int32)) dd_Tokens_step_5 (by decide) (fr_pc (pc' := 6) rfl ?_)
  refine fp_iadd dd_Tokens_step_6 (fr_pc (pc' := 7) rfl ?_)
  refine fr_callV (stk := []) (As := [.int (x1 + (1 : Int32))]) cl_9 (ok_Tokens_look p0 (x1 + (1 : Int32))) mt_Tokens_look rfl rfl sw_535 sw_537 sp_5 (by decide) (Nat.le_of_ble_eq_true rfl) dd_Tokens_step_7 (fun u2 => fr_to (pc' := 10) (env' := [some (sf_rv p0)]) (stk' := []) rfl rfl rfl ?_)
  exact fr_vret rfl rfl dd_Tokens_step_10
theorem mt_Tokens_isSign : sf_Mt ({ cls := "SplitFares$Tokens", name := "isSign", desc := "(C)Z" } : Jvm.MethodName) prog_10_method_9_code 2 (some .boolean) 1 := ⟨sw_638, sw_11, ⟨by decide, by decide, by decide +kernel⟩, by decide⟩
theorem dd_Tokens_isSign_0 : decode prog_10_method_9_code 0 = .ok (.aload_n 0, 1) := by decide +kernel
theorem dd_Tokens_isSign_1 : decode prog_10_method_9_code 1 = .ok (.getfield 31, 3) := by decide +kernel
theorem dd_Tokens_isSign_4 : decode prog_10_method_9_code 4 = .ok (.iconst 3, 1) := by decide +kernel
theorem dd_Tokens_isSign_5 : decode prog_10_method_9_code 5 = .ok (.if_icmp .ne 19, 3) := by decide +kernel
theorem dd_Tokens_isSign_8 : decode prog_10_method_9_code 8 = .ok (.aload_n 0, 1) := by decide +kernel
theorem dd_Tokens_isSign_9 : decode prog_10_method_9_code 9 = .ok (.aload_n 0, 1) := by decide +kernel
theorem dd_Tokens_isSign_10 : decode prog_10_method_9_code 10 = .ok (.getfield 34, 3) := by decide +kernel
theorem dd_Tokens_isSign_13 : decode prog_10_method_9_code 13 = .ok (.invokevirtual 62, 3) := by decide +kernel
theorem dd_Tokens_isSign_16 : decode prog_10_method_9_code 16 = .ok (.iload_n 1, 1) := by decide +kernel
theorem dd_Tokens_isSign_17 : decode prog_10_method_9_code 17 = .ok (.if_icmp .ne 7, 3) := by decide +kernel
theorem dd_Tokens_isSign_20 : decode prog_10_method_9_code 20 = .ok (.iconst 1, 1) := by decide +kernel
theorem dd_Tokens_isSign_21 : decode prog_10_method_9_code 21 = .ok (.goto 4, 3) := by decide +kernel
theorem dd_Tokens_isSign_24 : decode prog_10_method_9_code 24 = .ok (.iconst 0, 1) := by decide +kernel
theorem dd_Tokens_isSign_25 : decode prog_10_method_9_code 25 = .ok (.ireturn, 1) := by decide +kernel
def jx_Tokens_isSign (p0 : Option Nat) (p1 : Int32) : sf_M (Int32) :=
  sf_bnd (sf_gI 9 6 p0) fun x1 =>
  if x1 = (3 : Int32) then (
  sf_bnd (sf_gI 9 7 p0) fun x3 =>
  sf_bnd (sf_rc 9 p0 (jx_Tokens_byteAt p0 x3)) fun x4 =>
  if x4 = p1 then (
  sf_ret (1 : Int32)
  ) else (
  sf_ret (0 : Int32)
  )
  ) else (
  sf_ret (0 : Int32)
  )
set_option maxRecDepth 20000 in
set_option maxHeartbeats 4000000 in
theorem ok_Tokens_isSign (p0 : Option Nat) (p1 : Int32) : sf_Ok ({ cls := "SplitFares$Tokens", name := "isSign", desc := "(C)Z" } : Jvm.MethodName) prog_10_method_9_code 2 (some .boolean) 1 [sf_rv p0, .int p1] (jx_Tokens_isSign p0 p1) (fun r => some (.int r)) := by
  refine sf_Ok.of (env := [some (sf_rv p0), some (.int p1)]) (plainFor_of_name (by decide)) [false, false] (fun G => ⟨pk_r, pk_i, trivial⟩) (Nat.le_of_ble_eq_true rfl) rfl (fun X => ?_)
  unfold jx_Tokens_isSign
  refine fp_aload_n (i := 0) (r := p0) dd_Tokens_isSign_0 rfl rfl (fr_pc (pc' := 1) rfl ?_)
  refine fr_gI cl_9 6 (by decide) rfl sw_277 dd_Tokens_isSign_1 (fun x1 => fr_pc (pc' := 4) rfl ?_)
  refine fp_iconst (v := (3 : Int32)) dd_Tokens_isSign_4 (by decide) (fr_pc (pc' := 5) rfl ?_)
  refine fr_icmp_ne (tgt := 24) dd_Tokens_isSign_5 rfl (fun _ => ?_) (fun _ => ?_)
  · refine fr_pc (pc' := 8) rfl ?_
    refine fp_aload_n (i := 0) (r := p0) dd_Tokens_isSign_8 rfl rfl (fr_pc (pc' := 9) rfl ?_)
    refine fp_aload_n (i := 0) (r := p0) dd_Tokens_isSign_9 rfl rfl (fr_pc (pc' := 10) rfl ?_)
    refine fr_gI cl_9 7 (by decide) rfl sw_278 dd_Tokens_isSign_10 (fun x3 => fr_pc (pc' := 13) rfl ?_)
    refine fr_callV (stk := []) (As := [.int x3]) cl_9 (ok_Tokens_byteAt p0 x3) mt_Tokens_byteAt rfl rfl sw_566 sw_568 sp_8 (by decide) (Nat.le_of_ble_eq_true rfl) dd_Tokens_isSign_13 (fun x4 => fr_to (pc' := 16) (env' := [some (sf_rv p0), some (.int p1)]) (stk' := [.int x4]) rfl rfl rfl ?_)
    refine fp_iload_n (i := 1) (x := p1) dd_Tokens_isSign_16 rfl rfl (fr_pc (pc' := 17) rfl ?_)
    refine fr_icmp_ne (tgt := 24) dd_Tokens_isSign_17 rfl (fun _ => ?_) (fun _ => ?_)
    · refine fr_pc (pc' := 20) rfl ?_
      refine fp_iconst (v := (1 : Int32)) dd_Tokens_isSign_20 (by decide) (fr_pc (pc' := 21) rfl ?_)
      refine fp_goto (tgt := 25) dd_Tokens_isSign_21 rfl ?_
      exact fr_zret0 (v := (1 : Int32)) (Or.inr rfl) rfl rfl dd_Tokens_isSign_25
    · refine fp_iconst (v := (0 : Int32)) dd_Tokens_isSign_24 (by decide) (fr_pc (pc' := 25) rfl ?_)
      exact fr_zret0 (v := (0 : Int32)) (Or.inl rfl) rfl rfl dd_Tokens_isSign_25
  · refine fp_iconst (v := (0 : Int32)) dd_Tokens_isSign_24 (by decide) (fr_pc (pc' := 25) rfl ?_)
    exact fr_zret0 (v := (0 : Int32)) (Or.inl rfl) rfl rfl dd_Tokens_isSign_25
theorem mt_Tokens_number : sf_Mt ({ cls := "SplitFares$Tokens", name := "number", desc := "()I" } : Jvm.MethodName) prog_10_method_11_code 3 (some .int) 0 := ⟨sw_650, sw_11, ⟨by decide, by decide, by decide +kernel⟩, by decide⟩
theorem dd_Tokens_number_0 : decode prog_10_method_11_code 0 = .ok (.aload_n 0, 1) := by decide +kernel
theorem dd_Tokens_number_1 : decode prog_10_method_11_code 1 = .ok (.getfield 31, 3) := by decide +kernel
theorem dd_Tokens_number_4 : decode prog_10_method_11_code 4 = .ok (.iconst 2, 1) := by decide +kernel
theorem dd_Tokens_number_5 : decode prog_10_method_11_code 5 = .ok (.if_icmp .eq 5, 3) := by decide +kernel
theorem dd_Tokens_number_8 : decode prog_10_method_11_code 8 = .ok (.iconst (-1), 1) := by decide +kernel
theorem dd_Tokens_number_9 : decode prog_10_method_11_code 9 = .ok (.ireturn, 1) := by decide +kernel
theorem dd_Tokens_number_10 : decode prog_10_method_11_code 10 = .ok (.iconst 0, 1) := by decide +kernel
theorem dd_Tokens_number_11 : decode prog_10_method_11_code 11 = .ok (.istore_n 1, 1) := by decide +kernel
theorem dd_Tokens_number_12 : decode prog_10_method_11_code 12 = .ok (.aload_n 0, 1) := by decide +kernel
theorem dd_Tokens_number_13 : decode prog_10_method_11_code 13 = .ok (.getfield 34, 3) := by decide +kernel
theorem dd_Tokens_number_16 : decode prog_10_method_11_code 16 = .ok (.istore_n 2, 1) := by decide +kernel
theorem dd_Tokens_number_17 : decode prog_10_method_11_code 17 = .ok (.iload_n 2, 1) := by decide +kernel
theorem dd_Tokens_number_18 : decode prog_10_method_11_code 18 = .ok (.aload_n 0, 1) := by decide +kernel
theorem dd_Tokens_number_19 : decode prog_10_method_11_code 19 = .ok (.getfield 37, 3) := by decide +kernel
theorem dd_Tokens_number_22 : decode prog_10_method_11_code 22 = .ok (.if_icmp .ge 28, 3) := by decide +kernel
theorem dd_Tokens_number_25 : decode prog_10_method_11_code 25 = .ok (.ldc 74, 2) := by decide +kernel
theorem dd_Tokens_number_27 : decode prog_10_method_11_code 27 = .ok (.iload_n 1, 1) := by decide +kernel
theorem dd_Tokens_number_28 : decode prog_10_method_11_code 28 = .ok (.bipush 10, 2) := by decide +kernel
theorem dd_Tokens_number_30 : decode prog_10_method_11_code 30 = .ok (.imul, 1) := by decide +kernel
theorem dd_Tokens_number_31 : decode prog_10_method_11_code 31 = .ok (.aload_n 0, 1) := by decide +kernel
theorem dd_Tokens_number_32 : decode prog_10_method_11_code 32 = .ok (.iload_n 2, 1) := by decide +kernel
theorem dd_Tokens_number_33 : decode prog_10_method_11_code 33 = .ok (.invokevirtual 62, 3) := by decide +kernel
theorem dd_Tokens_number_36 : decode prog_10_method_11_code 36 = .ok (.iadd, 1) := by decide +kernel
theorem dd_Tokens_number_37 : decode prog_10_method_11_code 37 = .ok (.bipush 48, 2) := by decide +kernel
theorem dd_Tokens_number_39 : decode prog_10_method_11_code 39 = .ok (.isub, 1) := by decide +kernel
theorem dd_Tokens_number_40 : decode prog_10_method_11_code 40 = .ok (.invokestatic 45, 3) := by decide +kernel
theorem dd_Tokens_number_43 : decode prog_10_method_11_code 43 = .ok (.istore_n 1, 1) := by decide +kernel
theorem dd_Tokens_number_44 : decode prog_10_method_11_code 44 = .ok (.iinc 2 1, 3) := by decide +kernel
theorem dd_Tokens_number_47 : decode prog_10_method_11_code 47 = .ok (.goto (-30), 3) := by decide +kernel
theorem dd_Tokens_number_50 : decode prog_10_method_11_code 50 = .ok (.iload_n 1, 1) := by decide +kernel
theorem dd_Tokens_number_51 : decode prog_10_method_11_code 51 = .ok (.ireturn, 1) := by decide +kernel
def jx_Tokens_number (p0 : Option Nat) : sf_M (Int32) :=
  sf_bnd (sf_gI 9 6 p0) fun x1 =>
  if x1 = (2 : Int32) then (
  sf_bnd (sf_gI 9 7 p0) fun x3 =>
  sf_bnd (sf_loop (β := (Int32 × Int32)) (γ := (Int32)) (fun b4 =>
  sf_bnd (sf_gI 9 8 p0) fun x5 =>
  if x5 ≤ b4.2 then (
  sf_ret (.inr b4.1)
  ) else (
  sf_bnd (sf_rc 9 p0 (jx_Tokens_byteAt p0 b4.2)) fun x7 =>
  sf_bnd (jx_Math_min (1000000 : Int32) (((b4.1 * (10 : Int32)) + x7) - (48 : Int32))) fun x8 =>
  sf_bnd (sf_ret (b4.2 + (1 : Int32))) fun y9 =>
  sf_ret (.inl (x8, y9))
  )
  ) sf_fuel ((0 : Int32), x3)) (fun e10 =>
  sf_ret e10
  )
  ) else (
  sf_ret (-1 : Int32)
  )
set_option maxRecDepth 20000 in
set_option maxHeartbeats 4000000 in
theorem ok_Tokens_number (p0 : Option Nat) : sf_Ok ({ cls := "SplitFares$Tokens", name := "number", desc := "()I" } : Jvm.MethodName) prog_10_method_11_code 3 (some .int) 1 [sf_rv p0] (jx_Tokens_number p0) (fun r => some (.int r)) := by
  refine sf_Ok.of (env := [some (sf_rv p0), none, none]) (plainFor_of_name (by decide)) [false] (fun G => ⟨pk_r, trivial⟩) (Nat.le_of_ble_eq_true rfl) rfl (fun X => ?_)
  unfold jx_Tokens_number
  refine fp_aload_n (i := 0) (r := p0) dd_Tokens_number_0 rfl rfl (fr_pc (pc' := 1) rfl ?_)
  refine fr_gI cl_9 6 (by decide) rfl sw_277 dd_Tokens_number_1 (fun x1 => fr_pc (pc' := 4) rfl ?_)
  refine fp_iconst (v := (2 : Int32)) dd_Tokens_number_4 (by decide) (fr_pc (pc' := 5) rfl ?_)
  refine fr_icmp_eq (tgt := 10) dd_Tokens_number_5 rfl (fun _ => ?_) (fun _ => ?_)
  · refine fp_iconst (v := (0 : Int32)) dd_Tokens_number_10 (by decide) (fr_pc (pc' := 11) rfl ?_)
    refine fp_istore_n (i := 1) dd_Tokens_number_11 rfl (Nat.le_of_ble_eq_true rfl) (fun _ => c1_r rfl) (fr_to (pc' := 12) (env' := [some (sf_rv p0), some (.int (0 : Int32)), none]) (stk' := []) rfl rfl rfl ?_)
    refine fp_aload_n (i := 0) (r := p0) dd_Tokens_number_12 rfl rfl (fr_pc (pc' := 13) rfl ?_)
    refine fr_gI cl_9 7 (by decide) rfl sw_278 dd_Tokens_number_13 (fun x3 => fr_pc (pc' := 16) rfl ?_)
    refine fp_istore_n (i := 2) dd_Tokens_number_16 rfl (Nat.le_of_ble_eq_true rfl) (fun _ => c1_i rfl) (fr_to (pc' := 17) (env' := [some (sf_rv p0), some (.int (0 : Int32)), some (.int x3)]) (stk' := []) rfl rfl rfl ?_)
    refine fr_to (pc' := 17) (env' := [some (sf_rv p0), some (.int (0 : Int32)), some (.int x3)]) (stk' := []) rfl rfl rfl ?_
    refine fr_bnd (l1 := (fun (e10 : (Int32)) => sf_p 50 [some (sf_rv p0), some (.int e10), none] [])) (fr_loop (Lb := (fun (b4 : (Int32 × Int32)) => sf_p 17 [some (sf_rv p0), some (.int b4.1), some (.int b4.2)] [])) (fun b4 => ?_) _ _) (fun e10 => ?_)
    · refine fp_iload_n (i := 2) (x := b4.2) dd_Tokens_number_17 rfl rfl (fr_pc (pc' := 18) rfl ?_)
      refine fp_aload_n (i := 0) (r := p0) dd_Tokens_number_18 rfl rfl (fr_pc (pc' := 19) rfl ?_)
      refine fr_gI cl_9 8 (by decide) rfl sw_279 dd_Tokens_number_19 (fun x5 => fr_pc (pc' := 22) rfl ?_)
      refine fr_icmp_ge (tgt := 50) dd_Tokens_number_22 rfl (fun _ => ?_) (fun _ => ?_)
      · refine fr_wk [true, true, false] ?_
        exact fr_ret rfl
      · refine fr_pc (pc' := 25) rfl ?_
        refine fp_ldc (v := (1000000 : Int32)) dd_Tokens_number_25 sw_651 (fr_pc (pc' := 27) rfl ?_)
        refine fp_iload_n (i := 1) (x := b4.1) dd_Tokens_number_27 rfl rfl (fr_pc (pc' := 28) rfl ?_)
        refine fp_bipush (v := (10 : Int32)) dd_Tokens_number_28 (by decide) (fr_pc (pc' := 30) rfl ?_)
        refine fp_imul dd_Tokens_number_30 (fr_pc (pc' := 31) rfl ?_)
        refine fp_aload_n (i := 0) (r := p0) dd_Tokens_number_31 rfl rfl (fr_pc (pc' := 32) rfl ?_)
        refine fp_iload_n (i := 2) (x := b4.2) dd_Tokens_number_32 rfl rfl (fr_pc (pc' := 33) rfl ?_)
        refine fr_callV (stk := [.int (b4.1 * (10 : Int32)), .int (1000000 : Int32)]) (As := [.int b4.2]) cl_9 (ok_Tokens_byteAt p0 b4.2) mt_Tokens_byteAt rfl rfl sw_566 sw_568 sp_8 (by decide) (Nat.le_of_ble_eq_true rfl) dd_Tokens_number_33 (fun x7 => fr_to (pc' := 36) (env' := [some (sf_rv p0), some (.int b4.1), some (.int b4.2)]) (stk' := [.int x7, .int (b4.1 * (10 : Int32)), .int (1000000 : Int32)]) rfl rfl rfl ?_)
        refine fp_iadd dd_Tokens_number_36 (fr_pc (pc' := 37) rfl ?_)
        refine fp_bipush (v := (48 : Int32)) dd_Tokens_number_37 (by decide) (fr_pc (pc' := 39) rfl ?_)
        refine fp_isub dd_Tokens_number_39 (fr_pc (pc' := 40) rfl ?_)
        refine fr_callS (stk := []) (ok_Math_min (1000000 : Int32) (((b4.1 * (10 : Int32)) + x7) - (48 : Int32))) mt_Math_min rfl rfl sw_530 sw_432 (by decide) (Nat.le_of_ble_eq_true rfl) dd_Tokens_number_40 (fun x8 => fr_to (pc' := 43) (env' := [some (sf_rv p0), some (.int b4.1), some (.int b4.2)]) (stk' := [.int x8]) rfl rfl rfl ?_)
        refine fp_istore_n (i := 1) dd_Tokens_number_43 rfl (Nat.le_of_ble_eq_true rfl) (fun _ => c1_r rfl) (fr_to (pc' := 44) (env' := [some (sf_rv p0), some (.int x8), some (.int b4.2)]) (stk' := []) rfl rfl rfl ?_)
        refine fr_niinc (i := 2) (x := b4.2) (w := (1 : Int32)) dd_Tokens_number_44 rfl (by decide) (Nat.le_of_ble_eq_true rfl) (fun _ => c1_i rfl) (fun y9 => fr_to (pc' := 47) (env' := [some (sf_rv p0), some (.int x8), some (.int y9)]) (stk' := []) rfl rfl rfl ?_)
        refine fp_goto (tgt := 17) dd_Tokens_number_47 rfl ?_
        exact fr_ret rfl
    · refine fp_iload_n (i := 1) (x := e10) dd_Tokens_number_50 rfl rfl (fr_pc (pc' := 51) rfl ?_)
      exact fr_iret (v := e10) rfl rfl dd_Tokens_number_51
  · refine fr_pc (pc' := 8) rfl ?_
    refine fp_iconst (v := (-1 : Int32)) dd_Tokens_number_8 (by decide) (fr_pc (pc' := 9) rfl ?_)
    exact fr_iret (v := (-1 : Int32)) rfl rfl dd_Tokens_number_9
theorem mt_Tokens_isEnd : sf_Mt ({ cls := "SplitFares$Tokens", name := "isEnd", desc := "()Z" } : Jvm.MethodName) prog_10_method_8_code 1 (some .boolean) 0 := ⟨sw_711, sw_11, ⟨by decide, by decide, by decide +kernel⟩, by decide⟩
theorem dd_Tokens_isEnd_0 : decode prog_10_method_8_code 0 = .ok (.aload_n 0, 1) := by decide +kernel
theorem dd_Tokens_isEnd_1 : decode prog_10_method_8_code 1 = .ok (.getfield 31, 3) := by decide +kernel
theorem dd_Tokens_isEnd_4 : decode prog_10_method_8_code 4 = .ok (.ifCond .ne 7, 3) := by decide +kernel
theorem dd_Tokens_isEnd_7 : decode prog_10_method_8_code 7 = .ok (.iconst 1, 1) := by decide +kernel
theorem dd_Tokens_isEnd_8 : decode prog_10_method_8_code 8 = .ok (.goto 4, 3) := by decide +kernel
theorem dd_Tokens_isEnd_11 : decode prog_10_method_8_code 11 = .ok (.iconst 0, 1) := by decide +kernel
theorem dd_Tokens_isEnd_12 : decode prog_10_method_8_code 12 = .ok (.ireturn, 1) := by decide +kernel
def jx_Tokens_isEnd (p0 : Option Nat) : sf_M (Int32) :=
  sf_bnd (sf_gI 9 6 p0) fun x1 =>
  if x1 = 0 then (
  sf_ret (1 : Int32)
  ) else (
  sf_ret (0 : Int32)
  )
set_option maxRecDepth 20000 in
set_option maxHeartbeats 4000000 in
theorem ok_Tokens_isEnd (p0 : Option Nat) : sf_Ok ({ cls := "SplitFares$Tokens", name := "isEnd", desc := "()Z" } : Jvm.MethodName) prog_10_method_8_code 1 (some .boolean) 0 [sf_rv p0] (jx_Tokens_isEnd p0) (fun r => some (.int r)) := by
  refine sf_Ok.of (env := [some (sf_rv p0)]) (plainFor_of_name (by decide)) [false] (fun G => ⟨pk_r, trivial⟩) (Nat.le_of_ble_eq_true rfl) rfl (fun X => ?_)
  unfold jx_Tokens_isEnd
  refine fp_aload_n (i := 0) (r := p0) dd_Tokens_isEnd_0 rfl rfl (fr_pc (pc' := 1) rfl ?_)
  refine fr_gI cl_9 6 (by decide) rfl sw_277 dd_Tokens_isEnd_1 (fun x1 => fr_pc (pc' := 4) rfl ?_)
  refine fr_if_ne (tgt := 11) dd_Tokens_isEnd_4 rfl (fun _ => ?_) (fun _ => ?_)
  · refine fr_pc (pc' := 7) rfl ?_
    refine fp_iconst (v := (1 : Int32)) dd_Tokens_isEnd_7 (by decide) (fr_pc (pc' := 8) rfl ?_)
    refine fp_goto (tgt := 12) dd_Tokens_isEnd_8 rfl ?_
    exact fr_zret0 (v := (1 : Int32)) (Or.inr rfl) rfl rfl dd_Tokens_isEnd_12
  · refine fp_iconst (v := (0 : Int32)) dd_Tokens_isEnd_11 (by decide) (fr_pc (pc' := 12) rfl ?_)
    exact fr_zret0 (v := (0 : Int32)) (Or.inl rfl) rfl rfl dd_Tokens_isEnd_12
theorem mt_Tokens_place : sf_Mt ({ cls := "SplitFares$Tokens", name := "place", desc := "()I" } : Jvm.MethodName) prog_10_method_6_code 1 (some .int) 0 := ⟨sw_723, sw_11, ⟨by decide, by decide, by decide +kernel⟩, by decide⟩
theorem dd_Tokens_place_0 : decode prog_10_method_6_code 0 = .ok (.aload_n 0, 1) := by decide +kernel
theorem dd_Tokens_place_1 : decode prog_10_method_6_code 1 = .ok (.getfield 34, 3) := by decide +kernel
theorem dd_Tokens_place_4 : decode prog_10_method_6_code 4 = .ok (.ireturn, 1) := by decide +kernel
def jx_Tokens_place (p0 : Option Nat) : sf_M (Int32) :=
  sf_bnd (sf_gI 9 7 p0) fun x1 =>
  sf_ret x1
set_option maxRecDepth 20000 in
set_option maxHeartbeats 4000000 in
theorem ok_Tokens_place (p0 : Option Nat) : sf_Ok ({ cls := "SplitFares$Tokens", name := "place", desc := "()I" } : Jvm.MethodName) prog_10_method_6_code 1 (some .int) 0 [sf_rv p0] (jx_Tokens_place p0) (fun r => some (.int r)) := by
  refine sf_Ok.of (env := [some (sf_rv p0)]) (plainFor_of_name (by decide)) [false] (fun G => ⟨pk_r, trivial⟩) (Nat.le_of_ble_eq_true rfl) rfl (fun X => ?_)
  unfold jx_Tokens_place
  refine fp_aload_n (i := 0) (r := p0) dd_Tokens_place_0 rfl rfl (fr_pc (pc' := 1) rfl ?_)
  refine fr_gI cl_9 7 (by decide) rfl sw_278 dd_Tokens_place_1 (fun x1 => fr_pc (pc' := 4) rfl ?_)
  exact fr_iret (v := x1) rfl rfl dd_Tokens_place_4
